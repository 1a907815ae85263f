abbrev qq_Model_drop (D : va_G) (cI cZ cL cQ : ClassId) (o : Nat) (ml : Nat) (mm : Nat) (mw : Nat) (mc : Nat) (mg : Nat) (md : Nat) (mb : Nat) (mt : Nat) (mr : Nat) (mo : Nat) (mx : Nat) (mp : Nat) (nk : Nat) (na : Nat) (nv : Nat) (nf : Nat) (ns : Nat) (ne : Nat) (nw : Nat) (mf : Nat) (thr : Int32) (n : Nat) (k : Nat) (so : Int32) (fo : Int32) (bb : Int64) (bc : Int64) (be : Int64) (rs : Nat) (rc : Nat) (i1 : Nat) (wt : Nat → Int32) (bd : Nat → Int32) (A : Nat → Prop) : Array Value → State → Outcome → State → Prop := va_Qi (fun (r : Int32) (u : Unit) => r = nI (k - 1)) (fun (u : Unit) t => mm_B D kc_all [(cI, .int), (cZ, .boolean), (cL, .long), (cQ, .array .int)] A [(o, .inr (7, [.int 0, .int (nI n), .ref ml, .ref mm, .ref mw, .ref mc, .int (nI (k - 1)), .ref mg, .ref md, .int 0, .int fo, .ref mb, .long bb, .long bc, .ref mt, .long be, .ref mr, .int (nI rs), .ref mo, .int (nI rc), .ref mx, .ref mp, .ref nk, .ref na, .ref nv, .ref nf, .ref ns, .ref ne, .ref nw, .ref mf])), (mg, .inl (cI, 24, .inl (dr_w wt i1 (4 * (k - 1))))), (md, .inl (cI, 6, .inl (dr_b bd i1 (k - 1))))] t) A
set_option maxHeartbeats 4000000 in
set_option maxRecDepth 100000 in
theorem cc_Model_drop (l : Launch) (D : va_G) (cI cZ cL cQ : ClassId) (sz : Nat) (o : Nat) (ml : Nat) (mm : Nat) (mw : Nat) (mc : Nat) (mg : Nat) (md : Nat) (mb : Nat) (mt : Nat) (mr : Nat) (mo : Nat) (mx : Nat) (mp : Nat) (nk : Nat) (na : Nat) (nv : Nat) (nf : Nat) (ns : Nat) (ne : Nat) (nw : Nat) (mf : Nat) (thr : Int32) (n : Nat) (k : Nat) (so : Int32) (fo : Int32) (bb : Int64) (bc : Int64) (be : Int64) (rs : Nat) (rc : Nat) (i1 : Nat) (wt : Nat → Int32) (bd : Nat → Int32) (hk : k ≤ 6) (hi : i1 < k) : Met l yy_Model_drop ww_Model_drop ({ frames := 1, cells := 0, slots := 0, locals := 22 } : Room) (mm_Pc D kc_all [(cI, .int), (cZ, .boolean), (cL, .long), (cQ, .array .int)] sz [(o, .inr (7, [.int thr, .int (nI n), .ref ml, .ref mm, .ref mw, .ref mc, .int (nI k), .ref mg, .ref md, .int so, .int fo, .ref mb, .long bb, .long bc, .ref mt, .long be, .ref mr, .int (nI rs), .ref mo, .int (nI rc), .ref mx, .ref mp, .ref nk, .ref na, .ref nv, .ref nf, .ref ns, .ref ne, .ref nw, .ref mf])), (mg, .inl (cI, 24, .inl wt)), (md, .inl (cI, 6, .inl bd))] [.ref o, .int (nI i1)]) (qq_Model_drop D cI cZ cL cQ o ml mm mw mc mg md mb mt mr mo mx mp nk na nv nf ns ne nw mf thr n k so fo bb bc be rs rc i1 wt bd (va_A [(o, .inr (7, [.int thr, .int (nI n), .ref ml, .ref mm, .ref mw, .ref mc, .int (nI k), .ref mg, .ref md, .int so, .int fo, .ref mb, .long bb, .long bc, .ref mt, .long be, .ref mr, .int (nI rs), .ref mo, .int (nI rc), .ref mx, .ref mp, .ref nk, .ref na, .ref nv, .ref nf, .ref ns, .ref ne, .ref nw, .ref mf])), (mg, .inl (cI, 24, .inl wt)), (md, .inl (cI, 6, .inl bd))] sz)) 0 0 (va_A [(o, .inr (7, [.int thr, .int (nI n), .ref ml, .ref mm, .ref mw, .ref mc, .int (nI k), .ref mg, .ref md, .int so, .int fo, .ref mb, .long bb, .long bc, .ref mt, .long be, .ref mr, .int (nI rs), .ref mo, .int (nI rc), .ref mx, .ref mp, .ref nk, .ref na, .ref nv, .ref nf, .ref ns, .ref ne, .ref nw, .ref mf])), (mg, .inl (cI, 24, .inl wt)), (md, .inl (cI, 6, .inl bd))] sz) := by
  refine Met.ofW (cc := bb_Model_drop) (maxL := 4) (ret := (some .int)) (by decide) rfl ?_
  intro p e s m args below meth c s₁ B hml hv
  obtain ⟨rfl, hsz, hP, hK, hD0⟩ := hv
  have hx := B.exec
  have hb := B.bytes
  have hr := B.returns
  have hts := atoms_spec (ws := ww_Model_drop) B.pre
  have hown : s.vm.findClass RR_Model = some m.cls := findClass_of_methodNamed B.named
  have hlocks := B.notSynchronized
  subst hsz
  have hD := hD0.self (sz := s.heap.size)
  generalize hAe : va_A [(o, .inr (7, [.int thr, .int (nI n), .ref ml, .ref mm, .ref mw, .ref mc, .int (nI k), .ref mg, .ref md, .int so, .int fo, .ref mb, .long bb, .long bc, .ref mt, .long be, .ref mr, .int (nI rs), .ref mo, .int (nI rc), .ref mx, .ref mp, .ref nk, .ref na, .ref nv, .ref nf, .ref ns, .ref ne, .ref nw, .ref mf])), (mg, .inl (cI, 24, .inl wt)), (md, .inl (cI, 6, .inl bd))] s.heap.size = A at hD ⊢
  have hA : ∀ q : Nat, s.heap.size ≤ q → A q := fun q h => by rw [← hAe]; exact Or.inr h
  have hS : va_S A s.heap s.heap [] := va_S.rf
  have hP : va_P D kc_all [(o, .inr (7, [.int thr, .int (nI n), .ref ml, .ref mm, .ref mw, .ref mc, .int (nI k), .ref mg, .ref md, .int so, .int fo, .ref mb, .long bb, .long bc, .ref mt, .long be, .ref mr, .int (nI rs), .ref mo, .int (nI rc), .ref mx, .ref mp, .ref nk, .ref na, .ref nv, .ref nf, .ref ns, .ref ne, .ref nw, .ref mf])), (mg, .inl (cI, 24, .inl wt)), (md, .inl (cI, 6, .inl bd))] s.heap := hP
  have hl := lv_entry ([.ref o, .int (nI i1)]) (n := 4) (Nat.le_of_ble_eq_true rfl)
  rw [lg_entry_eq]
  generalize (lg_sl ([.ref o, .int (nI i1)]) ++ List.replicate (4 - (lg_sl ([.ref o, .int (nI i1)])).length) Slot.unset).toArray = ls at hl ⊢
  have hl : lv_has ls 4 [(0, .ref o), (1, .int (nI i1))] := hl
  have htb : ∀ w ∈ tb_all, w.before ([.ref o, .int (nI i1)]).toArray s = true := fun w h => hts w (List.mem_cons_of_mem _ h)
  have hf_27 := htb _ fl_Model_27
  have hf_30 := htb _ fl_Model_30
  have hf_76 := htb _ fl_Model_76
  have hf_83 := htb _ fl_Model_83
  have hf_86 := htb _ fl_Model_86
  refine lv_aload_n hx hb dd_Model_drop_0 rfl (lv_at hl 0 rfl) ?_
  refine lv_iload_n hx hb dd_Model_drop_1 rfl (lv_at hl 1 rfl) ?_
  refine lv_iconst (v := 0) hx hb dd_Model_drop_2 (by decide) ?_
  refine lv_aload_n hx hb dd_Model_drop_3 rfl (lv_at hl 0 rfl) ?_
  refine va_get (D := D) (ci := 7) (v := .int (nI k)) (C := RR_Model) (T := FF_Model) (N := 30) hx hb htb hi_Model hown hK hP 0 rfl rfl 6 (by decide) hf_83 (fun _ h9 => h9) rfl dd_Model_drop_4 ?_
  refine lv_iconst (v := 1) hx hb dd_Model_drop_7 (by decide) ?_
  refine lv_isub hx hb dd_Model_drop_8 ?_
  refine mm_topi (y := nI (k - 1)) (pk_sub (a := k) (b := 1) (by omega)) ?_
  refine mm_i (wc := []) (wr := [(o, .inr (7, [.int thr, .int (nI n), .ref ml, .ref mm, .ref mw, .ref mc, .int (nI k), .ref mg, .ref md, .int so, .int fo, .ref mb, .long bb, .long bc, .ref mt, .long be, .ref mr, .int (nI rs), .ref mo, .int (nI rc), .ref mx, .ref mp, .ref nk, .ref na, .ref nv, .ref nf, .ref ns, .ref ne, .ref nw, .ref mf])), (mg, .inl (cI, 24, .inl wt)), (md, .inl (cI, 6, .inl bd))]) (va_runS (As := [.int (nI i1), .int (0 : Int32), .int (nI (k - 1))]) (rest := [.ref o]) ⟨hx, hb, hml, hown, hts⟩ (cc_Model_isIn l D cI cZ cL cQ _ (nI i1) (0 : Int32) (nI (k - 1)) ) (mm_cwS 3 hts ml_Model_79 sm_Model_isIn ic_Model cd_Model_isIn rfl rfl (by decide +kernel) ⟨Nat.le_of_ble_eq_true rfl, Nat.le_of_ble_eq_true rfl⟩) (mm_preS hK hP hD [] (by decide) rfl) rfl rfl hl.1 rfl (lv_room (Nat.le_of_ble_eq_true rfl)) dd_Model_drop_9 ⟨Nat.zero_le _, Nat.zero_le _⟩) hP hD hS hA [] [0, 1, 2] rfl rfl (by decide) (by decide) (fun zr1 zu2 H locs p9 hP hD hS => ?_)
  have hP : va_P D kc_all [(o, .inr (7, [.int thr, .int (nI n), .ref ml, .ref mm, .ref mw, .ref mc, .int (nI k), .ref mg, .ref md, .int so, .int fo, .ref mb, .long bb, .long bc, .ref mt, .long be, .ref mr, .int (nI rs), .ref mo, .int (nI rc), .ref mx, .ref mp, .ref nk, .ref na, .ref nv, .ref nf, .ref ns, .ref ne, .ref nw, .ref mf])), (mg, .inl (cI, 24, .inl wt)), (md, .inl (cI, 6, .inl bd))] H := hP
  have hD : va_D A [(o, .inr (7, [.int thr, .int (nI n), .ref ml, .ref mm, .ref mw, .ref mc, .int (nI k), .ref mg, .ref md, .int so, .int fo, .ref mb, .long bb, .long bc, .ref mt, .long be, .ref mr, .int (nI rs), .ref mo, .int (nI rc), .ref mx, .ref mp, .ref nk, .ref na, .ref nv, .ref nf, .ref ns, .ref ne, .ref nw, .ref mf])), (mg, .inl (cI, 24, .inl wt)), (md, .inl (cI, 6, .inl bd))] := hD
  have p9 : tl_ok (in_ok (nI i1) (0 : Int32) (nI (k - 1))) zr1 := p9
  refine lv_if_eq (tgt := 19) hx hb dd_Model_drop_12 (by decide) (fun h12 => ?_) (fun h12 => ?_)
  · skip
    exact absurd ⟨nI_le (a := 0) (Nat.zero_le _) (by omega), nI_le (by omega) (by omega)⟩ (tl_0 p9 h12)
  · skip
    refine lv_iconst (v := 0) hx hb dd_Model_drop_15 (by decide) ?_
    refine lv_goto (tgt := 20) hx hb dd_Model_drop_16 (by decide) ?_
    refine va_put (D := D) (ci := 7) (v := .int (0 : Int32)) (ty := .int) (C := RR_Model) (T := FF_Model) (N := 30) hx hb htb hi_Model tt_Model tt_Model_ok nn_Model hown hK hP hD hS 0 rfl rfl 0 (by decide) hf_76 (fun _ h9 => h9) rfl (by decide +kernel) (rfl) (rfl) (Nat.le_of_ble_eq_true rfl) dd_Model_drop_20 (fun H locs hP hD hS => ?_)
    have hP : va_P D kc_all [(o, .inr (7, [.int (0 : Int32), .int (nI n), .ref ml, .ref mm, .ref mw, .ref mc, .int (nI k), .ref mg, .ref md, .int so, .int fo, .ref mb, .long bb, .long bc, .ref mt, .long be, .ref mr, .int (nI rs), .ref mo, .int (nI rc), .ref mx, .ref mp, .ref nk, .ref na, .ref nv, .ref nf, .ref ns, .ref ne, .ref nw, .ref mf])), (mg, .inl (cI, 24, .inl wt)), (md, .inl (cI, 6, .inl bd))] H := hP
    have hD : va_D A [(o, .inr (7, [.int (0 : Int32), .int (nI n), .ref ml, .ref mm, .ref mw, .ref mc, .int (nI k), .ref mg, .ref md, .int so, .int fo, .ref mb, .long bb, .long bc, .ref mt, .long be, .ref mr, .int (nI rs), .ref mo, .int (nI rc), .ref mx, .ref mp, .ref nk, .ref na, .ref nv, .ref nf, .ref ns, .ref ne, .ref nw, .ref mf])), (mg, .inl (cI, 24, .inl wt)), (md, .inl (cI, 6, .inl bd))] := hD
    refine lv_aload_n hx hb dd_Model_drop_23 rfl (lv_at hl 0 rfl) ?_
    refine va_get (D := D) (ci := 7) (v := .int (0 : Int32)) (C := RR_Model) (T := FF_Model) (N := 30) hx hb htb hi_Model hown hK hP 0 rfl rfl 0 (by decide) hf_76 (fun _ h9 => h9) rfl dd_Model_drop_24 ?_
    refine lv_if_le (tgt := 32) hx hb dd_Model_drop_27 (by decide) (fun h27 => ?_) (fun h27 => ?_)
    · skip
      have h27 : 0 ≤ 0 := (nI_leI (a := 0) (b := 0) (by omega) (by omega)).mp h27
      refine lv_aload_n hx hb dd_Model_drop_32 rfl (lv_at hl 0 rfl) ?_
      refine lv_dup hx hb dd_Model_drop_33 rfl ?_
      refine va_get (D := D) (ci := 7) (v := .int (nI k)) (C := RR_Model) (T := FF_Model) (N := 30) hx hb htb hi_Model hown hK hP 0 rfl rfl 6 (by decide) hf_83 (fun _ h9 => h9) rfl dd_Model_drop_34 ?_
      refine lv_iconst (v := 1) hx hb dd_Model_drop_37 (by decide) ?_
      refine lv_isub hx hb dd_Model_drop_38 ?_
      refine mm_topi (y := nI (k - 1)) (pk_sub (a := k) (b := 1) (by omega)) ?_
      refine va_put (D := D) (ci := 7) (v := .int (nI (k - 1))) (ty := .int) (C := RR_Model) (T := FF_Model) (N := 30) hx hb htb hi_Model tt_Model tt_Model_ok nn_Model hown hK hP hD hS 0 rfl rfl 6 (by decide) hf_83 (fun _ h9 => h9) rfl (by decide +kernel) (rfl) (rfl) (Nat.le_of_ble_eq_true rfl) dd_Model_drop_39 (fun H locs hP hD hS => ?_)
      have hP : va_P D kc_all [(o, .inr (7, [.int (0 : Int32), .int (nI n), .ref ml, .ref mm, .ref mw, .ref mc, .int (nI (k - 1)), .ref mg, .ref md, .int so, .int fo, .ref mb, .long bb, .long bc, .ref mt, .long be, .ref mr, .int (nI rs), .ref mo, .int (nI rc), .ref mx, .ref mp, .ref nk, .ref na, .ref nv, .ref nf, .ref ns, .ref ne, .ref nw, .ref mf])), (mg, .inl (cI, 24, .inl wt)), (md, .inl (cI, 6, .inl bd))] H := hP
      have hD : va_D A [(o, .inr (7, [.int (0 : Int32), .int (nI n), .ref ml, .ref mm, .ref mw, .ref mc, .int (nI (k - 1)), .ref mg, .ref md, .int so, .int fo, .ref mb, .long bb, .long bc, .ref mt, .long be, .ref mr, .int (nI rs), .ref mo, .int (nI rc), .ref mx, .ref mp, .ref nk, .ref na, .ref nv, .ref nf, .ref ns, .ref ne, .ref nw, .ref mf])), (mg, .inl (cI, 24, .inl wt)), (md, .inl (cI, 6, .inl bd))] := hD
      refine lv_iload_n hx hb dd_Model_drop_42 rfl (lv_at hl 1 rfl) ?_
      refine lv_istore_n (lv' := [(2, .int (nI i1)), (0, .ref o), (1, .int (nI i1))]) hx hb dd_Model_drop_43 rfl hl (by decide) rfl (fun ls hl => ?_)
      have J44 : ∀ (N : Nat) (t0 : Nat) (w1 : Nat → Int32) (b1 : Nat → Int32), (k - t0) < N → ∀ (ht : i1 ≤ t0 ∧ t0 ≤ k - 1) (hb1 : b1 = dr_b bd i1 t0) (hw : w1 = dr_w wt i1 (4 * t0)), ∀ (ls : Array Slot) (H : Heap) (locs : List Loc), lv_has ls 4 [(0, .ref o), (2, .int (nI t0))] → va_P D kc_all [(o, .inr (7, [.int 0, .int (nI n), .ref ml, .ref mm, .ref mw, .ref mc, .int (nI (k - 1)), .ref mg, .ref md, .int so, .int fo, .ref mb, .long bb, .long bc, .ref mt, .long be, .ref mr, .int (nI rs), .ref mo, .int (nI rc), .ref mx, .ref mp, .ref nk, .ref na, .ref nv, .ref nf, .ref ns, .ref ne, .ref nw, .ref mf])), (mg, .inl (cI, 24, .inl w1)), (md, .inl (cI, 6, .inl b1))] H → va_D A [(o, .inr (7, [.int 0, .int (nI n), .ref ml, .ref mm, .ref mw, .ref mc, .int (nI (k - 1)), .ref mg, .ref md, .int so, .int fo, .ref mb, .long bb, .long bc, .ref mt, .long be, .ref mr, .int (nI rs), .ref mo, .int (nI rc), .ref mx, .ref mp, .ref nk, .ref na, .ref nv, .ref nf, .ref ns, .ref ne, .ref nw, .ref mf])), (mg, .inl (cI, 24, .inl w1)), (md, .inl (cI, 6, .inl b1))] → va_S A s.heap H locs → W p l e (headSpec ww_Model_drop ({ frames := 1, cells := 0, slots := 0, locals := 22 } : Room)).room s m ([.ref o, .int (nI i1)]).toArray below meth c H locs 0 0 (MQ below (qq_Model_drop D cI cZ cL cQ o ml mm mw mc mg md mb mt mr mo mx mp nk na nv nf ns ne nw mf thr n k so fo bb bc be rs rc i1 wt bd A) ([.ref o, .int (nI i1)]).toArray s 0 0 A) (F0 m 44 ls []) := by
        intro N
        induction N with
        | zero => intro t0 w1 b1 hN9; exact absurd hN9 (Nat.not_lt_zero _)
        | succ N IH44 =>
          intro t0 w1 b1 hN9 ht hb1 hw ls H locs hl hP hD hS
          refine lv_iload_n hx hb dd_Model_drop_44 rfl (lv_at hl 1 rfl) ?_
          refine lv_aload_n hx hb dd_Model_drop_45 rfl (lv_at hl 0 rfl) ?_
          refine va_get (D := D) (ci := 7) (v := .int (nI (k - 1))) (C := RR_Model) (T := FF_Model) (N := 30) hx hb htb hi_Model hown hK hP 0 rfl rfl 6 (by decide) hf_83 (fun _ h9 => h9) rfl dd_Model_drop_46 ?_
          refine lv_icmp_ge (tgt := 107) hx hb dd_Model_drop_49 (by decide) (fun h49 => ?_) (fun h49 => ?_)
          · skip
            have h49 : k - 1 ≤ t0 := (nI_leI (a := k - 1) (b := t0) (by omega) (by omega)).mp h49
            have ek : t0 = k - 1 := by omega
            rw [hb1, hw, ek] at hP hD
            have hP : va_P D kc_all [(o, .inr (7, [.int 0, .int (nI n), .ref ml, .ref mm, .ref mw, .ref mc, .int (nI (k - 1)), .ref mg, .ref md, .int so, .int fo, .ref mb, .long bb, .long bc, .ref mt, .long be, .ref mr, .int (nI rs), .ref mo, .int (nI rc), .ref mx, .ref mp, .ref nk, .ref na, .ref nv, .ref nf, .ref ns, .ref ne, .ref nw, .ref mf])), (mg, .inl (cI, 24, .inl (dr_w wt i1 (4 * (k - 1))))), (md, .inl (cI, 6, .inl (dr_b bd i1 (k - 1))))] H := hP
            have hD : va_D A [(o, .inr (7, [.int 0, .int (nI n), .ref ml, .ref mm, .ref mw, .ref mc, .int (nI (k - 1)), .ref mg, .ref md, .int so, .int fo, .ref mb, .long bb, .long bc, .ref mt, .long be, .ref mr, .int (nI rs), .ref mo, .int (nI rc), .ref mx, .ref mp, .ref nk, .ref na, .ref nv, .ref nf, .ref ns, .ref ne, .ref nw, .ref mf])), (mg, .inl (cI, 24, .inl (dr_w wt i1 (4 * (k - 1))))), (md, .inl (cI, 6, .inl (dr_b bd i1 (k - 1))))] := hD
            refine lv_aload_n hx hb dd_Model_drop_107 rfl (lv_at hl 0 rfl) ?_
            refine lv_iconst (v := 0) hx hb dd_Model_drop_108 (by decide) ?_
            refine va_put (D := D) (ci := 7) (v := .int (0 : Int32)) (ty := .int) (C := RR_Model) (T := FF_Model) (N := 30) hx hb htb hi_Model tt_Model tt_Model_ok nn_Model hown hK hP hD hS 0 rfl rfl 9 (by decide) hf_86 (fun _ h9 => h9) rfl (by decide +kernel) (rfl) (rfl) (Nat.le_of_ble_eq_true rfl) dd_Model_drop_109 (fun H locs hP hD hS => ?_)
            have hP : va_P D kc_all [(o, .inr (7, [.int 0, .int (nI n), .ref ml, .ref mm, .ref mw, .ref mc, .int (nI (k - 1)), .ref mg, .ref md, .int (0 : Int32), .int fo, .ref mb, .long bb, .long bc, .ref mt, .long be, .ref mr, .int (nI rs), .ref mo, .int (nI rc), .ref mx, .ref mp, .ref nk, .ref na, .ref nv, .ref nf, .ref ns, .ref ne, .ref nw, .ref mf])), (mg, .inl (cI, 24, .inl (dr_w wt i1 (4 * (k - 1))))), (md, .inl (cI, 6, .inl (dr_b bd i1 (k - 1))))] H := hP
            have hD : va_D A [(o, .inr (7, [.int 0, .int (nI n), .ref ml, .ref mm, .ref mw, .ref mc, .int (nI (k - 1)), .ref mg, .ref md, .int (0 : Int32), .int fo, .ref mb, .long bb, .long bc, .ref mt, .long be, .ref mr, .int (nI rs), .ref mo, .int (nI rc), .ref mx, .ref mp, .ref nk, .ref na, .ref nv, .ref nf, .ref ns, .ref ne, .ref nw, .ref mf])), (mg, .inl (cI, 24, .inl (dr_w wt i1 (4 * (k - 1))))), (md, .inl (cI, 6, .inl (dr_b bd i1 (k - 1))))] := hD
            refine lv_aload_n hx hb dd_Model_drop_112 rfl (lv_at hl 0 rfl) ?_
            refine va_get (D := D) (ci := 7) (v := .int (nI (k - 1))) (C := RR_Model) (T := FF_Model) (N := 30) hx hb htb hi_Model hown hK hP 0 rfl rfl 6 (by decide) hf_83 (fun _ h9 => h9) rfl dd_Model_drop_113 ?_
            exact W.iret (v := (nI (k - 1))) hx hb hr (fun t ht hW => ⟨⟨nI (k - 1), (), rfl, rfl, by rw [ht]; exact hP, va_K.moved hW.alike hK, hD⟩, hS.F ht⟩) hS.2.2 dd_Model_drop_116
          · skip
            have h49 : ¬ (k - 1 ≤ t0) := fun q9 => h49 ((nI_leI (a := k - 1) (b := t0) (by omega) (by omega)).mpr q9)
            refine lv_aload_n hx hb dd_Model_drop_52 rfl (lv_at hl 0 rfl) ?_
            refine va_get (D := D) (ci := 7) (v := .ref md) (C := RR_Model) (T := FF_Model) (N := 30) hx hb htb hi_Model hown hK hP 0 rfl rfl 8 (by decide) hf_30 (fun _ h9 => h9) rfl dd_Model_drop_53 ?_
            refine lv_iload_n hx hb dd_Model_drop_56 rfl (lv_at hl 1 rfl) ?_
            refine lv_aload_n hx hb dd_Model_drop_57 rfl (lv_at hl 0 rfl) ?_
            refine va_get (D := D) (ci := 7) (v := .ref md) (C := RR_Model) (T := FF_Model) (N := 30) hx hb htb hi_Model hown hK hP 0 rfl rfl 8 (by decide) hf_30 (fun _ h9 => h9) rfl dd_Model_drop_58 ?_
            refine lv_iload_n hx hb dd_Model_drop_61 rfl (lv_at hl 1 rfl) ?_
            refine lv_iconst (v := 1) hx hb dd_Model_drop_62 (by decide) ?_
            refine lv_iadd hx hb dd_Model_drop_63 ?_
            refine mm_topi (y := nI (t0 + 1)) (nI_add t0 1) ?_
            refine mm_iald hx hb hK hP 2 0 rfl rfl (t0 + 1) (rfl) (by omega) (by first | decide | omega) dd_Model_drop_64 ?_
            refine mm_iast hx hb hK hP hD hS 2 0 rfl rfl (t0) (rfl) (by omega) (by first | decide | omega) dd_Model_drop_65 (fun H locs hP hD hS => ?_)
            have hP : va_P D kc_all [(o, .inr (7, [.int 0, .int (nI n), .ref ml, .ref mm, .ref mw, .ref mc, .int (nI (k - 1)), .ref mg, .ref md, .int so, .int fo, .ref mb, .long bb, .long bc, .ref mt, .long be, .ref mr, .int (nI rs), .ref mo, .int (nI rc), .ref mx, .ref mp, .ref nk, .ref na, .ref nv, .ref nf, .ref ns, .ref ne, .ref nw, .ref mf])), (mg, .inl (cI, 24, .inl w1)), (md, .inl (cI, 6, .inl (upd b1 t0 (b1 (t0 + 1)))))] H := hP
            have hD : va_D A [(o, .inr (7, [.int 0, .int (nI n), .ref ml, .ref mm, .ref mw, .ref mc, .int (nI (k - 1)), .ref mg, .ref md, .int so, .int fo, .ref mb, .long bb, .long bc, .ref mt, .long be, .ref mr, .int (nI rs), .ref mo, .int (nI rc), .ref mx, .ref mp, .ref nk, .ref na, .ref nv, .ref nf, .ref ns, .ref ne, .ref nw, .ref mf])), (mg, .inl (cI, 24, .inl w1)), (md, .inl (cI, 6, .inl (upd b1 t0 (b1 (t0 + 1)))))] := hD
            refine lv_iconst (v := 0) hx hb dd_Model_drop_66 (by decide) ?_
            refine lv_istore_n (lv' := [(3, .int (0 : Int32)), (0, .ref o), (2, .int (nI t0))]) hx hb dd_Model_drop_67 rfl hl (by decide) rfl (fun ls hl => ?_)
            have J68 : ∀ (N : Nat) (j : Nat) (w2 : Nat → Int32), (4 - j) < N → ∀ (hj : j ≤ 4) (hw2 : w2 = dr_w wt i1 (4 * t0 + j)), ∀ (ls : Array Slot) (H : Heap) (locs : List Loc), lv_has ls 4 [(0, .ref o), (2, .int (nI t0)), (3, .int (nI j))] → va_P D kc_all [(o, .inr (7, [.int 0, .int (nI n), .ref ml, .ref mm, .ref mw, .ref mc, .int (nI (k - 1)), .ref mg, .ref md, .int so, .int fo, .ref mb, .long bb, .long bc, .ref mt, .long be, .ref mr, .int (nI rs), .ref mo, .int (nI rc), .ref mx, .ref mp, .ref nk, .ref na, .ref nv, .ref nf, .ref ns, .ref ne, .ref nw, .ref mf])), (mg, .inl (cI, 24, .inl w2)), (md, .inl (cI, 6, .inl (upd b1 t0 (b1 (t0 + 1)))))] H → va_D A [(o, .inr (7, [.int 0, .int (nI n), .ref ml, .ref mm, .ref mw, .ref mc, .int (nI (k - 1)), .ref mg, .ref md, .int so, .int fo, .ref mb, .long bb, .long bc, .ref mt, .long be, .ref mr, .int (nI rs), .ref mo, .int (nI rc), .ref mx, .ref mp, .ref nk, .ref na, .ref nv, .ref nf, .ref ns, .ref ne, .ref nw, .ref mf])), (mg, .inl (cI, 24, .inl w2)), (md, .inl (cI, 6, .inl (upd b1 t0 (b1 (t0 + 1)))))] → va_S A s.heap H locs → W p l e (headSpec ww_Model_drop ({ frames := 1, cells := 0, slots := 0, locals := 22 } : Room)).room s m ([.ref o, .int (nI i1)]).toArray below meth c H locs 0 0 (MQ below (qq_Model_drop D cI cZ cL cQ o ml mm mw mc mg md mb mt mr mo mx mp nk na nv nf ns ne nw mf thr n k so fo bb bc be rs rc i1 wt bd A) ([.ref o, .int (nI i1)]).toArray s 0 0 A) (F0 m 68 ls []) := by
              intro N
              induction N with
              | zero => intro j w2 hN9; exact absurd hN9 (Nat.not_lt_zero _)
              | succ N IH68 =>
                intro j w2 hN9 hj hw2 ls H locs hl hP hD hS
                refine lv_iload_n hx hb dd_Model_drop_68 rfl (lv_at hl 2 rfl) ?_
                refine lv_iconst (v := 4) hx hb dd_Model_drop_69 (by decide) ?_
                refine lv_icmp_ge (tgt := 101) hx hb dd_Model_drop_70 (by decide) (fun h70 => ?_) (fun h70 => ?_)
                · skip
                  have h70 : 4 ≤ j := (nI_leI (a := 4) (b := j) (by omega) (by omega)).mp h70
                  refine lv_iinc (k := 1) (v := nI (t0 + 1)) (lv' := [(2, .int (nI (t0 + 1))), (0, .ref o), (3, .int (nI j))]) hx hb dd_Model_drop_101 hl rfl (nI_1 _) (by decide) rfl (fun ls hl => ?_)
                  refine lv_goto (tgt := 44) hx hb dd_Model_drop_104 (by decide) ?_
                  exact IH44 (t0 + 1) w2 (upd b1 t0 (b1 (t0 + 1))) (by omega) (by omega) (dr_s (by omega) hb1) (by rw [show 4 * (t0 + 1) = 4 * t0 + j by omega]; exact hw2) ls H locs (lv_sub hl [1, 0] rfl) hP hD hS
                · skip
                  have h70 : ¬ (4 ≤ j) := fun q9 => h70 ((nI_leI (a := 4) (b := j) (by omega) (by omega)).mpr q9)
                  refine lv_aload_n hx hb dd_Model_drop_73 rfl (lv_at hl 0 rfl) ?_
                  refine va_get (D := D) (ci := 7) (v := .ref mg) (C := RR_Model) (T := FF_Model) (N := 30) hx hb htb hi_Model hown hK hP 0 rfl rfl 7 (by decide) hf_27 (fun _ h9 => h9) rfl dd_Model_drop_74 ?_
                  refine lv_iconst (v := 4) hx hb dd_Model_drop_77 (by decide) ?_
                  refine lv_iload_n hx hb dd_Model_drop_78 rfl (lv_at hl 1 rfl) ?_
                  refine lv_imul hx hb dd_Model_drop_79 ?_
                  refine mm_topi (y := nI (4 * t0)) (pk_mul 4 t0) ?_
                  refine lv_iload_n hx hb dd_Model_drop_80 rfl (lv_at hl 2 rfl) ?_
                  refine lv_iadd hx hb dd_Model_drop_81 ?_
                  refine mm_topi (y := nI ((4 * t0) + j)) (nI_add (4 * t0) j) ?_
                  refine lv_aload_n hx hb dd_Model_drop_82 rfl (lv_at hl 0 rfl) ?_
                  refine va_get (D := D) (ci := 7) (v := .ref mg) (C := RR_Model) (T := FF_Model) (N := 30) hx hb htb hi_Model hown hK hP 0 rfl rfl 7 (by decide) hf_27 (fun _ h9 => h9) rfl dd_Model_drop_83 ?_
                  refine lv_iconst (v := 4) hx hb dd_Model_drop_86 (by decide) ?_
                  refine lv_iload_n hx hb dd_Model_drop_87 rfl (lv_at hl 1 rfl) ?_
                  refine lv_imul hx hb dd_Model_drop_88 ?_
                  refine mm_topi (y := nI (4 * t0)) (pk_mul 4 t0) ?_
                  refine lv_iconst (v := 4) hx hb dd_Model_drop_89 (by decide) ?_
                  refine lv_iadd hx hb dd_Model_drop_90 ?_
                  refine mm_topi (y := nI ((4 * t0) + 4)) (nI_add (4 * t0) 4) ?_
                  refine lv_iload_n hx hb dd_Model_drop_91 rfl (lv_at hl 2 rfl) ?_
                  refine lv_iadd hx hb dd_Model_drop_92 ?_
                  refine mm_topi (y := nI (((4 * t0) + 4) + j)) (nI_add ((4 * t0) + 4) j) ?_
                  refine mm_iald hx hb hK hP 1 0 rfl rfl (((4 * t0) + 4) + j) (rfl) (by omega) (by first | decide | omega) dd_Model_drop_93 ?_
                  refine mm_topi (y := w2 (4 * t0 + j + 4)) (by rw [show 4 * t0 + 4 + j = 4 * t0 + j + 4 by omega]) ?_
                  refine mm_iast hx hb hK hP hD hS 1 0 rfl rfl ((4 * t0) + j) (rfl) (by omega) (by first | decide | omega) dd_Model_drop_94 (fun H locs hP hD hS => ?_)
                  have hP : va_P D kc_all [(o, .inr (7, [.int 0, .int (nI n), .ref ml, .ref mm, .ref mw, .ref mc, .int (nI (k - 1)), .ref mg, .ref md, .int so, .int fo, .ref mb, .long bb, .long bc, .ref mt, .long be, .ref mr, .int (nI rs), .ref mo, .int (nI rc), .ref mx, .ref mp, .ref nk, .ref na, .ref nv, .ref nf, .ref ns, .ref ne, .ref nw, .ref mf])), (mg, .inl (cI, 24, .inl (upd w2 ((4 * t0) + j) (w2 (4 * t0 + j + 4))))), (md, .inl (cI, 6, .inl (upd b1 t0 (b1 (t0 + 1)))))] H := hP
                  have hD : va_D A [(o, .inr (7, [.int 0, .int (nI n), .ref ml, .ref mm, .ref mw, .ref mc, .int (nI (k - 1)), .ref mg, .ref md, .int so, .int fo, .ref mb, .long bb, .long bc, .ref mt, .long be, .ref mr, .int (nI rs), .ref mo, .int (nI rc), .ref mx, .ref mp, .ref nk, .ref na, .ref nv, .ref nf, .ref ns, .ref ne, .ref nw, .ref mf])), (mg, .inl (cI, 24, .inl (upd w2 ((4 * t0) + j) (w2 (4 * t0 + j + 4))))), (md, .inl (cI, 6, .inl (upd b1 t0 (b1 (t0 + 1)))))] := hD
                  refine lv_iinc (k := 2) (v := nI (j + 1)) (lv' := [(3, .int (nI (j + 1))), (0, .ref o), (2, .int (nI t0))]) hx hb dd_Model_drop_95 hl rfl (nI_1 _) (by decide) rfl (fun ls hl => ?_)
                  refine lv_goto (tgt := 68) hx hb dd_Model_drop_98 (by decide) ?_
                  exact IH68 (j + 1) (upd w2 ((4 * t0) + j) (w2 (4 * t0 + j + 4))) (by omega) (by omega) (dw_s (by omega) hw2) ls H locs (lv_sub hl [1, 2, 0] rfl) hP hD hS
            exact J68 _ 0 w1 (Nat.lt_succ_self _) (by omega) (hw) ls H locs (lv_sub hl [1, 2, 0] rfl) hP hD hS
      exact J44 _ i1 wt bd (Nat.lt_succ_self _) (by omega) (dr_0) (dw_0) ls H locs (lv_sub hl [1, 0] rfl) hP hD hS
    · skip
      have h27 : ¬ (0 ≤ 0) := fun q9 => h27 ((nI_leI (a := 0) (b := 0) (by omega) (by omega)).mpr q9)
      omega
abbrev qq_Model_dropN (D : va_G) (cI cZ cL cQ : ClassId) (o : Nat) (ml : Nat) (mm : Nat) (mw : Nat) (mc : Nat) (mg : Nat) (md : Nat) (mb : Nat) (mt : Nat) (mr : Nat) (mo : Nat) (mx : Nat) (mp : Nat) (nk : Nat) (na : Nat) (nv : Nat) (nf : Nat) (ns : Nat) (ne : Nat) (nw : Nat) (mf : Nat) (thr : Int32) (n : Nat) (k : Nat) (so : Int32) (fo : Int32) (bb : Int64) (bc : Int64) (be : Int64) (rs : Nat) (rc : Nat) (iv : Int32) (A : Nat → Prop) : Array Value → State → Outcome → State → Prop := va_Qi (fun (r : Int32) (u : Unit) => True) (fun (u : Unit) t => mm_B D kc_all [(cI, .int), (cZ, .boolean), (cL, .long), (cQ, .array .int)] A [(o, .inr (7, [.int 1, .int (nI n), .ref ml, .ref mm, .ref mw, .ref mc, .int (nI k), .ref mg, .ref md, .int so, .int fo, .ref mb, .long bb, .long bc, .ref mt, .long be, .ref mr, .int (nI rs), .ref mo, .int (nI rc), .ref mx, .ref mp, .ref nk, .ref na, .ref nv, .ref nf, .ref ns, .ref ne, .ref nw, .ref mf]))] t) A
set_option maxHeartbeats 4000000 in
set_option maxRecDepth 100000 in
theorem cc_Model_dropN (l : Launch) (D : va_G) (cI cZ cL cQ : ClassId) (sz : Nat) (o : Nat) (ml : Nat) (mm : Nat) (mw : Nat) (mc : Nat) (mg : Nat) (md : Nat) (mb : Nat) (mt : Nat) (mr : Nat) (mo : Nat) (mx : Nat) (mp : Nat) (nk : Nat) (na : Nat) (nv : Nat) (nf : Nat) (ns : Nat) (ne : Nat) (nw : Nat) (mf : Nat) (thr : Int32) (n : Nat) (k : Nat) (so : Int32) (fo : Int32) (bb : Int64) (bc : Int64) (be : Int64) (rs : Nat) (rc : Nat) (iv : Int32) (hno : ¬ in_ok iv 0 (nI k - 1)) : Met l yy_Model_drop ww_Model_drop ({ frames := 1, cells := 0, slots := 0, locals := 22 } : Room) (mm_Pc D kc_all [(cI, .int), (cZ, .boolean), (cL, .long), (cQ, .array .int)] sz [(o, .inr (7, [.int thr, .int (nI n), .ref ml, .ref mm, .ref mw, .ref mc, .int (nI k), .ref mg, .ref md, .int so, .int fo, .ref mb, .long bb, .long bc, .ref mt, .long be, .ref mr, .int (nI rs), .ref mo, .int (nI rc), .ref mx, .ref mp, .ref nk, .ref na, .ref nv, .ref nf, .ref ns, .ref ne, .ref nw, .ref mf]))] [.ref o, .int iv]) (qq_Model_dropN D cI cZ cL cQ o ml mm mw mc mg md mb mt mr mo mx mp nk na nv nf ns ne nw mf thr n k so fo bb bc be rs rc iv (va_A [(o, .inr (7, [.int thr, .int (nI n), .ref ml, .ref mm, .ref mw, .ref mc, .int (nI k), .ref mg, .ref md, .int so, .int fo, .ref mb, .long bb, .long bc, .ref mt, .long be, .ref mr, .int (nI rs), .ref mo, .int (nI rc), .ref mx, .ref mp, .ref nk, .ref na, .ref nv, .ref nf, .ref ns, .ref ne, .ref nw, .ref mf]))] sz)) 0 0 (va_A [(o, .inr (7, [.int thr, .int (nI n), .ref ml, .ref mm, .ref mw, .ref mc, .int (nI k), .ref mg, .ref md, .int so, .int fo, .ref mb, .long bb, .long bc, .ref mt, .long be, .ref mr, .int (nI rs), .ref mo, .int (nI rc), .ref mx, .ref mp, .ref nk, .ref na, .ref nv, .ref nf, .ref ns, .ref ne, .ref nw, .ref mf]))] sz) := by
  refine Met.ofW (cc := bb_Model_drop) (maxL := 4) (ret := (some .int)) (by decide) rfl ?_
  intro p e s m args below meth c s₁ B hml hv
  obtain ⟨rfl, hsz, hP, hK, hD0⟩ := hv
  have hx := B.exec
  have hb := B.bytes
  have hr := B.returns
  have hts := atoms_spec (ws := ww_Model_drop) B.pre
  have hown : s.vm.findClass RR_Model = some m.cls := findClass_of_methodNamed B.named
  have hlocks := B.notSynchronized
  subst hsz
  have hD := hD0.self (sz := s.heap.size)
  generalize hAe : va_A [(o, .inr (7, [.int thr, .int (nI n), .ref ml, .ref mm, .ref mw, .ref mc, .int (nI k), .ref mg, .ref md, .int so, .int fo, .ref mb, .long bb, .long bc, .ref mt, .long be, .ref mr, .int (nI rs), .ref mo, .int (nI rc), .ref mx, .ref mp, .ref nk, .ref na, .ref nv, .ref nf, .ref ns, .ref ne, .ref nw, .ref mf]))] s.heap.size = A at hD ⊢
  have hA : ∀ q : Nat, s.heap.size ≤ q → A q := fun q h => by rw [← hAe]; exact Or.inr h
  have hS : va_S A s.heap s.heap [] := va_S.rf
  have hP : va_P D kc_all [(o, .inr (7, [.int thr, .int (nI n), .ref ml, .ref mm, .ref mw, .ref mc, .int (nI k), .ref mg, .ref md, .int so, .int fo, .ref mb, .long bb, .long bc, .ref mt, .long be, .ref mr, .int (nI rs), .ref mo, .int (nI rc), .ref mx, .ref mp, .ref nk, .ref na, .ref nv, .ref nf, .ref ns, .ref ne, .ref nw, .ref mf]))] s.heap := hP
  have hl := lv_entry ([.ref o, .int iv]) (n := 4) (Nat.le_of_ble_eq_true rfl)
  rw [lg_entry_eq]
  generalize (lg_sl ([.ref o, .int iv]) ++ List.replicate (4 - (lg_sl ([.ref o, .int iv])).length) Slot.unset).toArray = ls at hl ⊢
  have hl : lv_has ls 4 [(0, .ref o), (1, .int iv)] := hl
  have htb : ∀ w ∈ tb_all, w.before ([.ref o, .int iv]).toArray s = true := fun w h => hts w (List.mem_cons_of_mem _ h)
  have hf_27 := htb _ fl_Model_27
  have hf_30 := htb _ fl_Model_30
  have hf_76 := htb _ fl_Model_76
  have hf_83 := htb _ fl_Model_83
  have hf_86 := htb _ fl_Model_86
  refine lv_aload_n hx hb dd_Model_drop_0 rfl (lv_at hl 0 rfl) ?_
  refine lv_iload_n hx hb dd_Model_drop_1 rfl (lv_at hl 1 rfl) ?_
  refine lv_iconst (v := 0) hx hb dd_Model_drop_2 (by decide) ?_
  refine lv_aload_n hx hb dd_Model_drop_3 rfl (lv_at hl 0 rfl) ?_
  refine va_get (D := D) (ci := 7) (v := .int (nI k)) (C := RR_Model) (T := FF_Model) (N := 30) hx hb htb hi_Model hown hK hP 0 rfl rfl 6 (by decide) hf_83 (fun _ h9 => h9) rfl dd_Model_drop_4 ?_
  refine lv_iconst (v := 1) hx hb dd_Model_drop_7 (by decide) ?_
  refine lv_isub hx hb dd_Model_drop_8 ?_
  refine mm_i (wc := []) (wr := [(o, .inr (7, [.int thr, .int (nI n), .ref ml, .ref mm, .ref mw, .ref mc, .int (nI k), .ref mg, .ref md, .int so, .int fo, .ref mb, .long bb, .long bc, .ref mt, .long be, .ref mr, .int (nI rs), .ref mo, .int (nI rc), .ref mx, .ref mp, .ref nk, .ref na, .ref nv, .ref nf, .ref ns, .ref ne, .ref nw, .ref mf]))]) (va_runS (As := [.int iv, .int (0 : Int32), .int ((nI k) - (1 : Int32))]) (rest := [.ref o]) ⟨hx, hb, hml, hown, hts⟩ (cc_Model_isIn l D cI cZ cL cQ _ iv (0 : Int32) ((nI k) - (1 : Int32)) ) (mm_cwS 3 hts ml_Model_79 sm_Model_isIn ic_Model cd_Model_isIn rfl rfl (by decide +kernel) ⟨Nat.le_of_ble_eq_true rfl, Nat.le_of_ble_eq_true rfl⟩) (mm_preS hK hP hD [] (by decide) rfl) rfl rfl hl.1 rfl (lv_room (Nat.le_of_ble_eq_true rfl)) dd_Model_drop_9 ⟨Nat.zero_le _, Nat.zero_le _⟩) hP hD hS hA [] [0] rfl rfl (by decide) (by decide) (fun zr1 zu2 H locs p9 hP hD hS => ?_)
  have hP : va_P D kc_all [(o, .inr (7, [.int thr, .int (nI n), .ref ml, .ref mm, .ref mw, .ref mc, .int (nI k), .ref mg, .ref md, .int so, .int fo, .ref mb, .long bb, .long bc, .ref mt, .long be, .ref mr, .int (nI rs), .ref mo, .int (nI rc), .ref mx, .ref mp, .ref nk, .ref na, .ref nv, .ref nf, .ref ns, .ref ne, .ref nw, .ref mf]))] H := hP
  have hD : va_D A [(o, .inr (7, [.int thr, .int (nI n), .ref ml, .ref mm, .ref mw, .ref mc, .int (nI k), .ref mg, .ref md, .int so, .int fo, .ref mb, .long bb, .long bc, .ref mt, .long be, .ref mr, .int (nI rs), .ref mo, .int (nI rc), .ref mx, .ref mp, .ref nk, .ref na, .ref nv, .ref nf, .ref ns, .ref ne, .ref nw, .ref mf]))] := hD
  have p9 : tl_ok (in_ok iv (0 : Int32) ((nI k) - (1 : Int32))) zr1 := p9
  refine lv_if_eq (tgt := 19) hx hb dd_Model_drop_12 (by decide) (fun h12 => ?_) (fun h12 => ?_)
  · skip
    refine lv_iconst (v := 1) hx hb dd_Model_drop_19 (by decide) ?_
    refine va_put (D := D) (ci := 7) (v := .int (1 : Int32)) (ty := .int) (C := RR_Model) (T := FF_Model) (N := 30) hx hb htb hi_Model tt_Model tt_Model_ok nn_Model hown hK hP hD hS 0 rfl rfl 0 (by decide) hf_76 (fun _ h9 => h9) rfl (by decide +kernel) (rfl) (rfl) (Nat.le_of_ble_eq_true rfl) dd_Model_drop_20 (fun H locs hP hD hS => ?_)
    have hP : va_P D kc_all [(o, .inr (7, [.int (1 : Int32), .int (nI n), .ref ml, .ref mm, .ref mw, .ref mc, .int (nI k), .ref mg, .ref md, .int so, .int fo, .ref mb, .long bb, .long bc, .ref mt, .long be, .ref mr, .int (nI rs), .ref mo, .int (nI rc), .ref mx, .ref mp, .ref nk, .ref na, .ref nv, .ref nf, .ref ns, .ref ne, .ref nw, .ref mf]))] H := hP
    have hD : va_D A [(o, .inr (7, [.int (1 : Int32), .int (nI n), .ref ml, .ref mm, .ref mw, .ref mc, .int (nI k), .ref mg, .ref md, .int so, .int fo, .ref mb, .long bb, .long bc, .ref mt, .long be, .ref mr, .int (nI rs), .ref mo, .int (nI rc), .ref mx, .ref mp, .ref nk, .ref na, .ref nv, .ref nf, .ref ns, .ref ne, .ref nw, .ref mf]))] := hD
    refine lv_aload_n hx hb dd_Model_drop_23 rfl (lv_at hl 0 rfl) ?_
    refine va_get (D := D) (ci := 7) (v := .int (1 : Int32)) (C := RR_Model) (T := FF_Model) (N := 30) hx hb htb hi_Model hown hK hP 0 rfl rfl 0 (by decide) hf_76 (fun _ h9 => h9) rfl dd_Model_drop_24 ?_
    refine lv_if_le (tgt := 32) hx hb dd_Model_drop_27 (by decide) (fun h27 => ?_) (fun h27 => ?_)
    · skip
      have h27 : 1 ≤ 0 := (nI_leI (a := 1) (b := 0) (by omega) (by omega)).mp h27
      omega
    · skip
      have h27 : ¬ (1 ≤ 0) := fun q9 => h27 ((nI_leI (a := 1) (b := 0) (by omega) (by omega)).mpr q9)
      refine lv_iconst (v := 0) hx hb dd_Model_drop_30 (by decide) ?_
      exact W.iret (v := (0 : Int32)) hx hb hr (fun t ht hW => ⟨⟨(0 : Int32), (), rfl, trivial, by rw [ht]; exact hP, va_K.moved hW.alike hK, hD⟩, hS.F ht⟩) hS.2.2 dd_Model_drop_31
  · skip
    exact absurd (tl_1 p9 h12) hno
abbrev qq_Model_isPlan (D : va_G) (cI cZ cL cQ : ClassId) (o : Nat) (ml : Nat) (mm : Nat) (mw : Nat) (mc : Nat) (mg : Nat) (md : Nat) (mb : Nat) (mt : Nat) (mr : Nat) (mo : Nat) (mx : Nat) (mp : Nat) (nk : Nat) (na : Nat) (nv : Nat) (nf : Nat) (ns : Nat) (ne : Nat) (nw : Nat) (mf : Nat) (thr : Int32) (n : Nat) (k : Nat) (so : Int32) (fo : Int32) (bb : Int64) (bc : Int64) (be : Int64) (rs : Nat) (rc : Nat) (lo : Nat → Int32) (hi : Nat → Int32) (wt : Nat → Int32) (bd : Nat → Int32) (tr : Nat → Int64) (A : Nat → Prop) : Array Value → State → Outcome → State → Prop := va_Qi (fun (r : Int32) (u : Unit) => tl_ok (mp_ok lo hi wt bd tr be n k) r) (fun (u : Unit) t => mm_B D kc_all [(cI, .int), (cZ, .boolean), (cL, .long), (cQ, .array .int)] A [(o, .inr (7, [.int thr, .int (nI n), .ref ml, .ref mm, .ref mw, .ref mc, .int (nI k), .ref mg, .ref md, .int so, .int fo, .ref mb, .long bb, .long bc, .ref mt, .long be, .ref mr, .int (nI rs), .ref mo, .int (nI rc), .ref mx, .ref mp, .ref nk, .ref na, .ref nv, .ref nf, .ref ns, .ref ne, .ref nw, .ref mf])), (ml, .inl (cI, 4, .inl lo)), (mm, .inl (cI, 4, .inl hi)), (mg, .inl (cI, 24, .inl wt)), (md, .inl (cI, 6, .inl bd)), (mt, .inl (cL, 4, .inr (.inl tr)))] t) A
set_option maxHeartbeats 4000000 in
set_option maxRecDepth 100000 in
theorem cc_Model_isPlan (l : Launch) (D : va_G) (cI cZ cL cQ : ClassId) (sz : Nat) (o : Nat) (ml : Nat) (mm : Nat) (mw : Nat) (mc : Nat) (mg : Nat) (md : Nat) (mb : Nat) (mt : Nat) (mr : Nat) (mo : Nat) (mx : Nat) (mp : Nat) (nk : Nat) (na : Nat) (nv : Nat) (nf : Nat) (ns : Nat) (ne : Nat) (nw : Nat) (mf : Nat) (thr : Int32) (n : Nat) (k : Nat) (so : Int32) (fo : Int32) (bb : Int64) (bc : Int64) (be : Int64) (rs : Nat) (rc : Nat) (lo : Nat → Int32) (hi : Nat → Int32) (wt : Nat → Int32) (bd : Nat → Int32) (tr : Nat → Int64) (hn : n ≤ 4) (hk : k ≤ 6) : Met l yy_Model_isPlan ww_Model_isPlan ({ frames := 0, cells := 0, slots := 0, locals := 0 } : Room) (mm_Pc D kc_all [(cI, .int), (cZ, .boolean), (cL, .long), (cQ, .array .int)] sz [(o, .inr (7, [.int thr, .int (nI n), .ref ml, .ref mm, .ref mw, .ref mc, .int (nI k), .ref mg, .ref md, .int so, .int fo, .ref mb, .long bb, .long bc, .ref mt, .long be, .ref mr, .int (nI rs), .ref mo, .int (nI rc), .ref mx, .ref mp, .ref nk, .ref na, .ref nv, .ref nf, .ref ns, .ref ne, .ref nw, .ref mf])), (ml, .inl (cI, 4, .inl lo)), (mm, .inl (cI, 4, .inl hi)), (mg, .inl (cI, 24, .inl wt)), (md, .inl (cI, 6, .inl bd)), (mt, .inl (cL, 4, .inr (.inl tr)))] [.ref o]) (qq_Model_isPlan D cI cZ cL cQ o ml mm mw mc mg md mb mt mr mo mx mp nk na nv nf ns ne nw mf thr n k so fo bb bc be rs rc lo hi wt bd tr (va_A [(o, .inr (7, [.int thr, .int (nI n), .ref ml, .ref mm, .ref mw, .ref mc, .int (nI k), .ref mg, .ref md, .int so, .int fo, .ref mb, .long bb, .long bc, .ref mt, .long be, .ref mr, .int (nI rs), .ref mo, .int (nI rc), .ref mx, .ref mp, .ref nk, .ref na, .ref nv, .ref nf, .ref ns, .ref ne, .ref nw, .ref mf])), (ml, .inl (cI, 4, .inl lo)), (mm, .inl (cI, 4, .inl hi)), (mg, .inl (cI, 24, .inl wt)), (md, .inl (cI, 6, .inl bd)), (mt, .inl (cL, 4, .inr (.inl tr)))] sz)) 0 0 (va_A [(o, .inr (7, [.int thr, .int (nI n), .ref ml, .ref mm, .ref mw, .ref mc, .int (nI k), .ref mg, .ref md, .int so, .int fo, .ref mb, .long bb, .long bc, .ref mt, .long be, .ref mr, .int (nI rs), .ref mo, .int (nI rc), .ref mx, .ref mp, .ref nk, .ref na, .ref nv, .ref nf, .ref ns, .ref ne, .ref nw, .ref mf])), (ml, .inl (cI, 4, .inl lo)), (mm, .inl (cI, 4, .inl hi)), (mg, .inl (cI, 24, .inl wt)), (md, .inl (cI, 6, .inl bd)), (mt, .inl (cL, 4, .inr (.inl tr)))] sz) := by
  refine Met.ofW (cc := bb_Model_isPlan) (maxL := 5) (ret := (some .boolean)) (by decide) rfl ?_
  intro p e s m args below meth c s₁ B hml hv
  obtain ⟨rfl, hsz, hP, hK, hD0⟩ := hv
  have hx := B.exec
  have hb := B.bytes
  have hr := B.returns
  have hts := atoms_spec (ws := ww_Model_isPlan) B.pre
  have hown : s.vm.findClass RR_Model = some m.cls := findClass_of_methodNamed B.named
  have hlocks := B.notSynchronized
  subst hsz
  have hD := hD0.self (sz := s.heap.size)
  generalize hAe : va_A [(o, .inr (7, [.int thr, .int (nI n), .ref ml, .ref mm, .ref mw, .ref mc, .int (nI k), .ref mg, .ref md, .int so, .int fo, .ref mb, .long bb, .long bc, .ref mt, .long be, .ref mr, .int (nI rs), .ref mo, .int (nI rc), .ref mx, .ref mp, .ref nk, .ref na, .ref nv, .ref nf, .ref ns, .ref ne, .ref nw, .ref mf])), (ml, .inl (cI, 4, .inl lo)), (mm, .inl (cI, 4, .inl hi)), (mg, .inl (cI, 24, .inl wt)), (md, .inl (cI, 6, .inl bd)), (mt, .inl (cL, 4, .inr (.inl tr)))] s.heap.size = A at hD ⊢
  have hA : ∀ q : Nat, s.heap.size ≤ q → A q := fun q h => by rw [← hAe]; exact Or.inr h
  have hS : va_S A s.heap s.heap [] := va_S.rf
  have hP : va_P D kc_all [(o, .inr (7, [.int thr, .int (nI n), .ref ml, .ref mm, .ref mw, .ref mc, .int (nI k), .ref mg, .ref md, .int so, .int fo, .ref mb, .long bb, .long bc, .ref mt, .long be, .ref mr, .int (nI rs), .ref mo, .int (nI rc), .ref mx, .ref mp, .ref nk, .ref na, .ref nv, .ref nf, .ref ns, .ref ne, .ref nw, .ref mf])), (ml, .inl (cI, 4, .inl lo)), (mm, .inl (cI, 4, .inl hi)), (mg, .inl (cI, 24, .inl wt)), (md, .inl (cI, 6, .inl bd)), (mt, .inl (cL, 4, .inr (.inl tr)))] s.heap := hP
  have hl := lv_entry ([.ref o]) (n := 5) (Nat.le_of_ble_eq_true rfl)
  rw [lg_entry_eq]
  generalize (lg_sl ([.ref o]) ++ List.replicate (5 - (lg_sl ([.ref o])).length) Slot.unset).toArray = ls at hl ⊢
  have hl : lv_has ls 5 [(0, .ref o)] := hl
  have htb : ∀ w ∈ tb_all, w.before ([.ref o]).toArray s = true := fun w h => hts w (List.mem_cons_of_mem _ h)
  have hf_7 := htb _ fl_Model_7
  have hf_13 := htb _ fl_Model_13
  have hf_17 := htb _ fl_Model_17
  have hf_27 := htb _ fl_Model_27
  have hf_30 := htb _ fl_Model_30
  have hf_37 := htb _ fl_Model_37
  have hf_83 := htb _ fl_Model_83
  have hf_93 := htb _ fl_Model_93
  refine lv_iconst (v := 0) hx hb dd_Model_isPlan_0 (by decide) ?_
  refine lv_istore_n (lv' := [(1, .int (0 : Int32)), (0, .ref o)]) hx hb dd_Model_isPlan_1 rfl hl (by decide) rfl (fun ls hl => ?_)
  have J2 : ∀ (N : Nat) (j : Nat), (n - j) < N → ∀ (hj : j ≤ n) (hv : mp_b lo hi tr be j), ∀ (ls : Array Slot) (H : Heap) (locs : List Loc), lv_has ls 5 [(0, .ref o), (1, .int (nI j))] → va_P D kc_all [(o, .inr (7, [.int thr, .int (nI n), .ref ml, .ref mm, .ref mw, .ref mc, .int (nI k), .ref mg, .ref md, .int so, .int fo, .ref mb, .long bb, .long bc, .ref mt, .long be, .ref mr, .int (nI rs), .ref mo, .int (nI rc), .ref mx, .ref mp, .ref nk, .ref na, .ref nv, .ref nf, .ref ns, .ref ne, .ref nw, .ref mf])), (ml, .inl (cI, 4, .inl lo)), (mm, .inl (cI, 4, .inl hi)), (mg, .inl (cI, 24, .inl wt)), (md, .inl (cI, 6, .inl bd)), (mt, .inl (cL, 4, .inr (.inl tr)))] H → va_D A [(o, .inr (7, [.int thr, .int (nI n), .ref ml, .ref mm, .ref mw, .ref mc, .int (nI k), .ref mg, .ref md, .int so, .int fo, .ref mb, .long bb, .long bc, .ref mt, .long be, .ref mr, .int (nI rs), .ref mo, .int (nI rc), .ref mx, .ref mp, .ref nk, .ref na, .ref nv, .ref nf, .ref ns, .ref ne, .ref nw, .ref mf])), (ml, .inl (cI, 4, .inl lo)), (mm, .inl (cI, 4, .inl hi)), (mg, .inl (cI, 24, .inl wt)), (md, .inl (cI, 6, .inl bd)), (mt, .inl (cL, 4, .inr (.inl tr)))] → va_S A s.heap H locs → W p l e (headSpec ww_Model_isPlan ({ frames := 0, cells := 0, slots := 0, locals := 0 } : Room)).room s m ([.ref o]).toArray below meth c H locs 0 0 (MQ below (qq_Model_isPlan D cI cZ cL cQ o ml mm mw mc mg md mb mt mr mo mx mp nk na nv nf ns ne nw mf thr n k so fo bb bc be rs rc lo hi wt bd tr A) ([.ref o]).toArray s 0 0 A) (F0 m 2 ls []) := by
    intro N
    induction N with
    | zero => intro j hN9; exact absurd hN9 (Nat.not_lt_zero _)
    | succ N IH2 =>
      intro j hN9 hj hv ls H locs hl hP hD hS
      refine lv_iload_n hx hb dd_Model_isPlan_2 rfl (lv_at hl 1 rfl) ?_
      refine lv_aload_n hx hb dd_Model_isPlan_3 rfl (lv_at hl 0 rfl) ?_
      refine va_get (D := D) (ci := 7) (v := .int (nI n)) (C := RR_Model) (T := FF_Model) (N := 30) hx hb htb hi_Model hown hK hP 0 rfl rfl 1 (by decide) hf_7 (fun _ h9 => h9) rfl dd_Model_isPlan_4 ?_
      refine lv_icmp_ge (tgt := 62) hx hb dd_Model_isPlan_7 (by decide) (fun h7 => ?_) (fun h7 => ?_)
      · skip
        have h7 : n ≤ j := (nI_leI (a := n) (b := j) (by omega) (by omega)).mp h7
        refine lv_iconst (v := 0) hx hb dd_Model_isPlan_62 (by decide) ?_
        refine lv_istore_n (lv' := [(1, .int (0 : Int32)), (0, .ref o)]) hx hb dd_Model_isPlan_63 rfl hl (by decide) rfl (fun ls hl => ?_)
        have J64 : ∀ (N : Nat) (i : Nat), (k - i) < N → ∀ (hi9 : i ≤ k) (hw : mp_l wt bd tr be n i), ∀ (ls : Array Slot) (H : Heap) (locs : List Loc), lv_has ls 5 [(0, .ref o), (1, .int (nI i))] → va_P D kc_all [(o, .inr (7, [.int thr, .int (nI n), .ref ml, .ref mm, .ref mw, .ref mc, .int (nI k), .ref mg, .ref md, .int so, .int fo, .ref mb, .long bb, .long bc, .ref mt, .long be, .ref mr, .int (nI rs), .ref mo, .int (nI rc), .ref mx, .ref mp, .ref nk, .ref na, .ref nv, .ref nf, .ref ns, .ref ne, .ref nw, .ref mf])), (ml, .inl (cI, 4, .inl lo)), (mm, .inl (cI, 4, .inl hi)), (mg, .inl (cI, 24, .inl wt)), (md, .inl (cI, 6, .inl bd)), (mt, .inl (cL, 4, .inr (.inl tr)))] H → va_D A [(o, .inr (7, [.int thr, .int (nI n), .ref ml, .ref mm, .ref mw, .ref mc, .int (nI k), .ref mg, .ref md, .int so, .int fo, .ref mb, .long bb, .long bc, .ref mt, .long be, .ref mr, .int (nI rs), .ref mo, .int (nI rc), .ref mx, .ref mp, .ref nk, .ref na, .ref nv, .ref nf, .ref ns, .ref ne, .ref nw, .ref mf])), (ml, .inl (cI, 4, .inl lo)), (mm, .inl (cI, 4, .inl hi)), (mg, .inl (cI, 24, .inl wt)), (md, .inl (cI, 6, .inl bd)), (mt, .inl (cL, 4, .inr (.inl tr)))] → va_S A s.heap H locs → W p l e (headSpec ww_Model_isPlan ({ frames := 0, cells := 0, slots := 0, locals := 0 } : Room)).room s m ([.ref o]).toArray below meth c H locs 0 0 (MQ below (qq_Model_isPlan D cI cZ cL cQ o ml mm mw mc mg md mb mt mr mo mx mp nk na nv nf ns ne nw mf thr n k so fo bb bc be rs rc lo hi wt bd tr A) ([.ref o]).toArray s 0 0 A) (F0 m 64 ls []) := by
          intro N
          induction N with
          | zero => intro i hN9; exact absurd hN9 (Nat.not_lt_zero _)
          | succ N IH64 =>
            intro i hN9 hi9 hw ls H locs hl hP hD hS
            refine lv_iload_n hx hb dd_Model_isPlan_64 rfl (lv_at hl 1 rfl) ?_
            refine lv_aload_n hx hb dd_Model_isPlan_65 rfl (lv_at hl 0 rfl) ?_
            refine va_get (D := D) (ci := 7) (v := .int (nI k)) (C := RR_Model) (T := FF_Model) (N := 30) hx hb htb hi_Model hown hK hP 0 rfl rfl 6 (by decide) hf_83 (fun _ h9 => h9) rfl dd_Model_isPlan_66 ?_
            refine lv_icmp_ge (tgt := 140) hx hb dd_Model_isPlan_69 (by decide) (fun h69 => ?_) (fun h69 => ?_)
            · skip
              have h69 : k ≤ i := (nI_leI (a := k) (b := i) (by omega) (by omega)).mp h69
              refine lv_iconst (v := 1) hx hb dd_Model_isPlan_140 (by decide) ?_
              exact W.zret (v := (1 : Int32)) hx hb hr (rfl) (fun t ht hW => ⟨⟨(1 : Int32), (), rfl, tl_t ⟨(show j = n by omega) ▸ hv, (show i = k by omega) ▸ hw⟩, by rw [ht]; exact hP, va_K.moved hW.alike hK, hD⟩, hS.F ht⟩) hS.2.2 dd_Model_isPlan_141
            · skip
              have h69 : ¬ (k ≤ i) := fun q9 => h69 ((nI_leI (a := k) (b := i) (by omega) (by omega)).mpr q9)
              refine lv_lconst (v := 0) hx hb dd_Model_isPlan_72 (by decide) ?_
              refine lv_lstore_n (lv' := [(2, .long (0 : Int64)), (0, .ref o), (1, .int (nI i))]) hx hb dd_Model_isPlan_73 rfl hl (by decide) rfl (fun ls hl => ?_)
              refine lv_iconst (v := 0) hx hb dd_Model_isPlan_74 (by decide) ?_
              refine lv_istore (lv' := [(4, .int (0 : Int32)), (2, .long (0 : Int64)), (0, .ref o), (1, .int (nI i))]) hx hb dd_Model_isPlan_75 hl (by decide) rfl (fun ls hl => ?_)
              have J77 : ∀ (N : Nat) (q0 : Nat), (n - q0) < N → ∀ (hq0 : q0 ≤ n), ∀ (ls : Array Slot) (H : Heap) (locs : List Loc), lv_has ls 5 [(0, .ref o), (1, .int (nI i)), (2, .long (mw_sum (fun j => wt (4 * i + j)) tr q0)), (4, .int (nI q0))] → va_P D kc_all [(o, .inr (7, [.int thr, .int (nI n), .ref ml, .ref mm, .ref mw, .ref mc, .int (nI k), .ref mg, .ref md, .int so, .int fo, .ref mb, .long bb, .long bc, .ref mt, .long be, .ref mr, .int (nI rs), .ref mo, .int (nI rc), .ref mx, .ref mp, .ref nk, .ref na, .ref nv, .ref nf, .ref ns, .ref ne, .ref nw, .ref mf])), (ml, .inl (cI, 4, .inl lo)), (mm, .inl (cI, 4, .inl hi)), (mg, .inl (cI, 24, .inl wt)), (md, .inl (cI, 6, .inl bd)), (mt, .inl (cL, 4, .inr (.inl tr)))] H → va_D A [(o, .inr (7, [.int thr, .int (nI n), .ref ml, .ref mm, .ref mw, .ref mc, .int (nI k), .ref mg, .ref md, .int so, .int fo, .ref mb, .long bb, .long bc, .ref mt, .long be, .ref mr, .int (nI rs), .ref mo, .int (nI rc), .ref mx, .ref mp, .ref nk, .ref na, .ref nv, .ref nf, .ref ns, .ref ne, .ref nw, .ref mf])), (ml, .inl (cI, 4, .inl lo)), (mm, .inl (cI, 4, .inl hi)), (mg, .inl (cI, 24, .inl wt)), (md, .inl (cI, 6, .inl bd)), (mt, .inl (cL, 4, .inr (.inl tr)))] → va_S A s.heap H locs → W p l e (headSpec ww_Model_isPlan ({ frames := 0, cells := 0, slots := 0, locals := 0 } : Room)).room s m ([.ref o]).toArray below meth c H locs 0 0 (MQ below (qq_Model_isPlan D cI cZ cL cQ o ml mm mw mc mg md mb mt mr mo mx mp nk na nv nf ns ne nw mf thr n k so fo bb bc be rs rc lo hi wt bd tr A) ([.ref o]).toArray s 0 0 A) (F0 m 77 ls []) := by
                intro N
                induction N with
                | zero => intro q0 hN9; exact absurd hN9 (Nat.not_lt_zero _)
                | succ N IH77 =>
                  intro q0 hN9 hq0 ls H locs hl hP hD hS
                  refine lv_iload hx hb dd_Model_isPlan_77 (lv_at hl 3 rfl) ?_
                  refine lv_aload_n hx hb dd_Model_isPlan_79 rfl (lv_at hl 0 rfl) ?_
                  refine va_get (D := D) (ci := 7) (v := .int (nI n)) (C := RR_Model) (T := FF_Model) (N := 30) hx hb htb hi_Model hown hK hP 0 rfl rfl 1 (by decide) hf_7 (fun _ h9 => h9) rfl dd_Model_isPlan_80 ?_
                  refine lv_icmp_ge (tgt := 115) hx hb dd_Model_isPlan_83 (by decide) (fun h83 => ?_) (fun h83 => ?_)
                  · skip
                    have h83 : n ≤ q0 := (nI_leI (a := n) (b := q0) (by omega) (by omega)).mp h83
                    refine lv_lload_n hx hb dd_Model_isPlan_115 rfl (lv_at hl 2 rfl) ?_
                    refine lv_aload_n hx hb dd_Model_isPlan_116 rfl (lv_at hl 0 rfl) ?_
                    refine va_get (D := D) (ci := 7) (v := .ref md) (C := RR_Model) (T := FF_Model) (N := 30) hx hb htb hi_Model hown hK hP 0 rfl rfl 8 (by decide) hf_30 (fun _ h9 => h9) rfl dd_Model_isPlan_117 ?_
                    refine lv_iload_n hx hb dd_Model_isPlan_120 rfl (lv_at hl 1 rfl) ?_
                    refine mm_iald hx hb hK hP 4 0 rfl rfl (i) (rfl) (by omega) (by first | decide | omega) dd_Model_isPlan_121 ?_
                    refine lv_i2l (v := (bd i).toInt64) hx hb dd_Model_isPlan_122 rfl ?_
                    refine lv_aload_n hx hb dd_Model_isPlan_123 rfl (lv_at hl 0 rfl) ?_
                    refine va_get (D := D) (ci := 7) (v := .long be) (C := RR_Model) (T := FF_Model) (N := 30) hx hb htb hi_Model hown hK hP 0 rfl rfl 15 (by decide) hf_93 (fun _ h9 => h9) rfl dd_Model_isPlan_124 ?_
                    refine lv_lmul hx hb dd_Model_isPlan_127 ?_
                    refine W.lcmp hx hb dd_Model_isPlan_128 ?_
                    refine lv_if_le (tgt := 134) hx hb dd_Model_isPlan_129 (by decide) (fun h129 => ?_) (fun h129 => ?_)
                    · skip
                      rw [lg_cmp_le (mw_sum (fun j => wt (4 * i + j)) tr q0) (((bd i).toInt64) * be)] at h129
                      refine lv_iinc (k := 1) (v := nI (i + 1)) (lv' := [(1, .int (nI (i + 1))), (0, .ref o), (2, .long (mw_sum (fun j => wt (4 * i + j)) tr q0)), (4, .int (nI q0))]) hx hb dd_Model_isPlan_134 hl rfl (nI_1 _) (by decide) rfl (fun ls hl => ?_)
                      refine lv_goto (tgt := 64) hx hb dd_Model_isPlan_137 (by decide) ?_
                      exact IH64 (i + 1) (by omega) (by omega) (by intro i9 g9; rcases Nat.lt_or_eq_of_le (Nat.le_of_lt_succ g9) with h | rfl; exact hw i9 h; rw [show n = q0 by omega]; exact h129) ls H locs (lv_sub hl [1, 0] rfl) hP hD hS
                    · skip
                      rw [lg_cmp_le (mw_sum (fun j => wt (4 * i + j)) tr q0) (((bd i).toInt64) * be)] at h129
                      refine lv_iconst (v := 0) hx hb dd_Model_isPlan_132 (by decide) ?_
                      exact W.zret (v := (0 : Int32)) hx hb hr (rfl) (fun t ht hW => ⟨⟨(0 : Int32), (), rfl, mp_3 (i := i) (by omega) (by rw [show n = q0 by omega]; exact h129), by rw [ht]; exact hP, va_K.moved hW.alike hK, hD⟩, hS.F ht⟩) hS.2.2 dd_Model_isPlan_133
                  · skip
                    have h83 : ¬ (n ≤ q0) := fun q9 => h83 ((nI_leI (a := n) (b := q0) (by omega) (by omega)).mpr q9)
                    refine lv_lload_n hx hb dd_Model_isPlan_86 rfl (lv_at hl 2 rfl) ?_
                    refine lv_aload_n hx hb dd_Model_isPlan_87 rfl (lv_at hl 0 rfl) ?_
                    refine va_get (D := D) (ci := 7) (v := .ref mg) (C := RR_Model) (T := FF_Model) (N := 30) hx hb htb hi_Model hown hK hP 0 rfl rfl 7 (by decide) hf_27 (fun _ h9 => h9) rfl dd_Model_isPlan_88 ?_
                    refine lv_iconst (v := 4) hx hb dd_Model_isPlan_91 (by decide) ?_
                    refine lv_iload_n hx hb dd_Model_isPlan_92 rfl (lv_at hl 1 rfl) ?_
                    refine lv_imul hx hb dd_Model_isPlan_93 ?_
                    refine mm_topi (y := nI (4 * i)) (pk_mul 4 i) ?_
                    refine lv_iload hx hb dd_Model_isPlan_94 (lv_at hl 3 rfl) ?_
                    refine lv_iadd hx hb dd_Model_isPlan_96 ?_
                    refine mm_topi (y := nI ((4 * i) + q0)) (nI_add (4 * i) q0) ?_
                    refine mm_iald hx hb hK hP 3 0 rfl rfl ((4 * i) + q0) (rfl) (by omega) (by first | decide | omega) dd_Model_isPlan_97 ?_
                    refine lv_i2l (v := (wt ((4 * i) + q0)).toInt64) hx hb dd_Model_isPlan_98 rfl ?_
                    refine lv_aload_n hx hb dd_Model_isPlan_99 rfl (lv_at hl 0 rfl) ?_
                    refine va_get (D := D) (ci := 7) (v := .ref mt) (C := RR_Model) (T := FF_Model) (N := 30) hx hb htb hi_Model hown hK hP 0 rfl rfl 14 (by decide) hf_37 (fun _ h9 => h9) rfl dd_Model_isPlan_100 ?_
                    refine lv_iload hx hb dd_Model_isPlan_103 (lv_at hl 3 rfl) ?_
                    refine mm_lald hx hb hK hP 5 2 rfl rfl (q0) (rfl) (by omega) (by first | decide | omega) dd_Model_isPlan_105 ?_
                    refine lv_lmul hx hb dd_Model_isPlan_106 ?_
                    refine lv_ladd hx hb dd_Model_isPlan_107 ?_
                    refine lv_lstore_n (lv' := [(2, .long ((mw_sum (fun j => wt (4 * i + j)) tr q0) + (((wt ((4 * i) + q0)).toInt64) * (tr q0)))), (0, .ref o), (1, .int (nI i)), (4, .int (nI q0))]) hx hb dd_Model_isPlan_108 rfl hl (by decide) rfl (fun ls hl => ?_)
                    refine lv_iinc (k := 3) (v := nI (q0 + 1)) (lv' := [(4, .int (nI (q0 + 1))), (2, .long ((mw_sum (fun j => wt (4 * i + j)) tr q0) + (((wt ((4 * i) + q0)).toInt64) * (tr q0)))), (0, .ref o), (1, .int (nI i))]) hx hb dd_Model_isPlan_109 hl rfl (nI_1 _) (by decide) rfl (fun ls hl => ?_)
                    refine lv_goto (tgt := 77) hx hb dd_Model_isPlan_112 (by decide) ?_
                    exact IH77 (q0 + 1) (by omega) (by omega) ls H locs (lv_sub hl [2, 3, 1, 0] rfl) hP hD hS
              exact J77 _ 0 (Nat.lt_succ_self _) (by omega) ls H locs (lv_sub hl [2, 3, 1, 0] rfl) hP hD hS
        exact J64 _ 0 (Nat.lt_succ_self _) (by omega) (fun _ h => absurd h (Nat.not_lt_zero _)) ls H locs (lv_sub hl [1, 0] rfl) hP hD hS
      · skip
        have h7 : ¬ (n ≤ j) := fun q9 => h7 ((nI_leI (a := n) (b := j) (by omega) (by omega)).mpr q9)
        refine lv_aload_n hx hb dd_Model_isPlan_10 rfl (lv_at hl 0 rfl) ?_
        refine va_get (D := D) (ci := 7) (v := .ref mt) (C := RR_Model) (T := FF_Model) (N := 30) hx hb htb hi_Model hown hK hP 0 rfl rfl 14 (by decide) hf_37 (fun _ h9 => h9) rfl dd_Model_isPlan_11 ?_
        refine lv_iload_n hx hb dd_Model_isPlan_14 rfl (lv_at hl 1 rfl) ?_
        refine mm_lald hx hb hK hP 5 2 rfl rfl (j) (rfl) (by omega) (by first | decide | omega) dd_Model_isPlan_15 ?_
        refine lv_aload_n hx hb dd_Model_isPlan_16 rfl (lv_at hl 0 rfl) ?_
        refine va_get (D := D) (ci := 7) (v := .ref ml) (C := RR_Model) (T := FF_Model) (N := 30) hx hb htb hi_Model hown hK hP 0 rfl rfl 2 (by decide) hf_13 (fun _ h9 => h9) rfl dd_Model_isPlan_17 ?_
        refine lv_iload_n hx hb dd_Model_isPlan_20 rfl (lv_at hl 1 rfl) ?_
        refine mm_iald hx hb hK hP 1 0 rfl rfl (j) (rfl) (by omega) (by first | decide | omega) dd_Model_isPlan_21 ?_
        refine lv_i2l (v := (lo j).toInt64) hx hb dd_Model_isPlan_22 rfl ?_
        refine lv_aload_n hx hb dd_Model_isPlan_23 rfl (lv_at hl 0 rfl) ?_
        refine va_get (D := D) (ci := 7) (v := .long be) (C := RR_Model) (T := FF_Model) (N := 30) hx hb htb hi_Model hown hK hP 0 rfl rfl 15 (by decide) hf_93 (fun _ h9 => h9) rfl dd_Model_isPlan_24 ?_
        refine lv_lmul hx hb dd_Model_isPlan_27 ?_
        refine W.lcmp hx hb dd_Model_isPlan_28 ?_
        refine lv_if_lt (tgt := 54) hx hb dd_Model_isPlan_29 (by decide) (fun h29 => ?_) (fun h29 => ?_)
        · skip
          rw [lg_cmp_lt (tr j) (((lo j).toInt64) * be)] at h29
          refine lv_iconst (v := 0) hx hb dd_Model_isPlan_54 (by decide) ?_
          exact W.zret (v := (0 : Int32)) hx hb hr (rfl) (fun t ht hW => ⟨⟨(0 : Int32), (), rfl, by first | exact mp_1 (by omega) h29 | exact mp_2 (by omega) h51, by rw [ht]; exact hP, va_K.moved hW.alike hK, hD⟩, hS.F ht⟩) hS.2.2 dd_Model_isPlan_55
        · skip
          rw [lg_cmp_lt (tr j) (((lo j).toInt64) * be)] at h29
          refine lv_aload_n hx hb dd_Model_isPlan_32 rfl (lv_at hl 0 rfl) ?_
          refine va_get (D := D) (ci := 7) (v := .ref mt) (C := RR_Model) (T := FF_Model) (N := 30) hx hb htb hi_Model hown hK hP 0 rfl rfl 14 (by decide) hf_37 (fun _ h9 => h9) rfl dd_Model_isPlan_33 ?_
          refine lv_iload_n hx hb dd_Model_isPlan_36 rfl (lv_at hl 1 rfl) ?_
          refine mm_lald hx hb hK hP 5 2 rfl rfl (j) (rfl) (by omega) (by first | decide | omega) dd_Model_isPlan_37 ?_
          refine lv_aload_n hx hb dd_Model_isPlan_38 rfl (lv_at hl 0 rfl) ?_
          refine va_get (D := D) (ci := 7) (v := .ref mm) (C := RR_Model) (T := FF_Model) (N := 30) hx hb htb hi_Model hown hK hP 0 rfl rfl 3 (by decide) hf_17 (fun _ h9 => h9) rfl dd_Model_isPlan_39 ?_
          refine lv_iload_n hx hb dd_Model_isPlan_42 rfl (lv_at hl 1 rfl) ?_
          refine mm_iald hx hb hK hP 2 0 rfl rfl (j) (rfl) (by omega) (by first | decide | omega) dd_Model_isPlan_43 ?_
          refine lv_i2l (v := (hi j).toInt64) hx hb dd_Model_isPlan_44 rfl ?_
          refine lv_aload_n hx hb dd_Model_isPlan_45 rfl (lv_at hl 0 rfl) ?_
          refine va_get (D := D) (ci := 7) (v := .long be) (C := RR_Model) (T := FF_Model) (N := 30) hx hb htb hi_Model hown hK hP 0 rfl rfl 15 (by decide) hf_93 (fun _ h9 => h9) rfl dd_Model_isPlan_46 ?_
          refine lv_lmul hx hb dd_Model_isPlan_49 ?_
          refine W.lcmp hx hb dd_Model_isPlan_50 ?_
          refine lv_if_le (tgt := 56) hx hb dd_Model_isPlan_51 (by decide) (fun h51 => ?_) (fun h51 => ?_)
          · skip
            rw [lg_cmp_le (tr j) (((hi j).toInt64) * be)] at h51
            refine lv_iinc (k := 1) (v := nI (j + 1)) (lv' := [(1, .int (nI (j + 1))), (0, .ref o)]) hx hb dd_Model_isPlan_56 hl rfl (nI_1 _) (by decide) rfl (fun ls hl => ?_)
            refine lv_goto (tgt := 2) hx hb dd_Model_isPlan_59 (by decide) ?_
            exact IH2 (j + 1) (by omega) (by omega) (by intro i9 g9; rcases Nat.lt_or_eq_of_le (Nat.le_of_lt_succ g9) with h | rfl; exact hv i9 h; exact ⟨mm_nlt h29, h51⟩) ls H locs (lv_sub hl [1, 0] rfl) hP hD hS
          · skip
            rw [lg_cmp_le (tr j) (((hi j).toInt64) * be)] at h51
            refine lv_iconst (v := 0) hx hb dd_Model_isPlan_54 (by decide) ?_
            exact W.zret (v := (0 : Int32)) hx hb hr (rfl) (fun t ht hW => ⟨⟨(0 : Int32), (), rfl, by first | exact mp_1 (by omega) h29 | exact mp_2 (by omega) h51, by rw [ht]; exact hP, va_K.moved hW.alike hK, hD⟩, hS.F ht⟩) hS.2.2 dd_Model_isPlan_55
  exact J2 _ 0 (Nat.lt_succ_self _) (by omega) (fun _ h => absurd h (Nat.not_lt_zero _)) ls _ _ (lv_sub hl [1, 0] rfl) hP hD hS
abbrev qq_Model_fork (D : va_G) (cI cZ cL cQ : ClassId) (o : Nat) (ml : Nat) (mm : Nat) (mw : Nat) (mc : Nat) (mg : Nat) (md : Nat) (mb : Nat) (mt : Nat) (mr : Nat) (mo : Nat) (mx : Nat) (mp : Nat) (nk : Nat) (na : Nat) (nv : Nat) (nf : Nat) (ns : Nat) (ne : Nat) (nw : Nat) (mf : Nat) (thr : Int32) (n : Nat) (k : Nat) (so : Int32) (fo : Int32) (bb : Int64) (bc : Int64) (be : Int64) (rs : Nat) (rc : Nat) (nv0 : Int32) (jv : Int32) (xv : Int32) (f1 : Int32) (f2 : Int32) (fs : fk_T) (A : Nat → Prop) : Array Value → State → Outcome → State → Prop := va_Qv (fun u : fk_T => u = fk_f nv0 jv xv f1 f2 fs) (fun (u : fk_T) t => mm_B D kc_all [(cI, .int), (cZ, .boolean), (cL, .long), (cQ, .array .int)] A [(o, .inr (7, [.int u.1, .int (nI n), .ref ml, .ref mm, .ref mw, .ref mc, .int (nI k), .ref mg, .ref md, .int so, .int fo, .ref mb, .long bb, .long bc, .ref mt, .long be, .ref mr, .int (nI rs), .ref mo, .int (nI rc), .ref mx, .ref mp, .ref nk, .ref na, .ref nv, .ref nf, .ref ns, .ref ne, .ref nw, .ref mf])), (nk, .inl (cI, 40, .inl u.2.1)), (na, .inl (cI, 40, .inl u.2.2.1)), (nv, .inl (cI, 40, .inl u.2.2.2.1)), (nf, .inl (cI, 40, .inl u.2.2.2.2.1)), (ns, .inl (cI, 40, .inl u.2.2.2.2.2))] t) A
set_option maxHeartbeats 4000000 in
set_option maxRecDepth 100000 in
theorem cc_Model_fork (l : Launch) (D : va_G) (cI cZ cL cQ : ClassId) (sz : Nat) (o : Nat) (ml : Nat) (mm : Nat) (mw : Nat) (mc : Nat) (mg : Nat) (md : Nat) (mb : Nat) (mt : Nat) (mr : Nat) (mo : Nat) (mx : Nat) (mp : Nat) (nk : Nat) (na : Nat) (nv : Nat) (nf : Nat) (ns : Nat) (ne : Nat) (nw : Nat) (mf : Nat) (thr : Int32) (n : Nat) (k : Nat) (so : Int32) (fo : Int32) (bb : Int64) (bc : Int64) (be : Int64) (rs : Nat) (rc : Nat) (nv0 : Int32) (jv : Int32) (xv : Int32) (f1 : Int32) (f2 : Int32) (fs : fk_T)  : Met l yy_Model_fork ww_Model_fork ({ frames := 1, cells := 0, slots := 0, locals := 22 } : Room) (mm_Pc D kc_all [(cI, .int), (cZ, .boolean), (cL, .long), (cQ, .array .int)] sz [(o, .inr (7, [.int thr, .int (nI n), .ref ml, .ref mm, .ref mw, .ref mc, .int (nI k), .ref mg, .ref md, .int so, .int fo, .ref mb, .long bb, .long bc, .ref mt, .long be, .ref mr, .int (nI rs), .ref mo, .int (nI rc), .ref mx, .ref mp, .ref nk, .ref na, .ref nv, .ref nf, .ref ns, .ref ne, .ref nw, .ref mf])), (nk, .inl (cI, 40, .inl fs.2.1)), (na, .inl (cI, 40, .inl fs.2.2.1)), (nv, .inl (cI, 40, .inl fs.2.2.2.1)), (nf, .inl (cI, 40, .inl fs.2.2.2.2.1)), (ns, .inl (cI, 40, .inl fs.2.2.2.2.2))] [.ref o, .int nv0, .int jv, .int xv, .int f1, .int f2]) (qq_Model_fork D cI cZ cL cQ o ml mm mw mc mg md mb mt mr mo mx mp nk na nv nf ns ne nw mf thr n k so fo bb bc be rs rc nv0 jv xv f1 f2 fs (va_A [(o, .inr (7, [.int thr, .int (nI n), .ref ml, .ref mm, .ref mw, .ref mc, .int (nI k), .ref mg, .ref md, .int so, .int fo, .ref mb, .long bb, .long bc, .ref mt, .long be, .ref mr, .int (nI rs), .ref mo, .int (nI rc), .ref mx, .ref mp, .ref nk, .ref na, .ref nv, .ref nf, .ref ns, .ref ne, .ref nw, .ref mf])), (nk, .inl (cI, 40, .inl fs.2.1)), (na, .inl (cI, 40, .inl fs.2.2.1)), (nv, .inl (cI, 40, .inl fs.2.2.2.1)), (nf, .inl (cI, 40, .inl fs.2.2.2.2.1)), (ns, .inl (cI, 40, .inl fs.2.2.2.2.2))] sz)) 0 0 (va_A [(o, .inr (7, [.int thr, .int (nI n), .ref ml, .ref mm, .ref mw, .ref mc, .int (nI k), .ref mg, .ref md, .int so, .int fo, .ref mb, .long bb, .long bc, .ref mt, .long be, .ref mr, .int (nI rs), .ref mo, .int (nI rc), .ref mx, .ref mp, .ref nk, .ref na, .ref nv, .ref nf, .ref ns, .ref ne, .ref nw, .ref mf])), (nk, .inl (cI, 40, .inl fs.2.1)), (na, .inl (cI, 40, .inl fs.2.2.1)), (nv, .inl (cI, 40, .inl fs.2.2.2.1)), (nf, .inl (cI, 40, .inl fs.2.2.2.2.1)), (ns, .inl (cI, 40, .inl fs.2.2.2.2.2))] sz) := by
  refine Met.ofW (cc := bb_Model_fork) (maxL := 7) (ret := none) (by decide) rfl ?_
  intro p e s m args below meth c s₁ B hml hv
  obtain ⟨rfl, hsz, hP, hK, hD0⟩ := hv
  have hx := B.exec
  have hb := B.bytes
  have hr := B.returns
  have hts := atoms_spec (ws := ww_Model_fork) B.pre
  have hown : s.vm.findClass RR_Model = some m.cls := findClass_of_methodNamed B.named
  have hlocks := B.notSynchronized
  subst hsz
  have hD := hD0.self (sz := s.heap.size)
  generalize hAe : va_A [(o, .inr (7, [.int thr, .int (nI n), .ref ml, .ref mm, .ref mw, .ref mc, .int (nI k), .ref mg, .ref md, .int so, .int fo, .ref mb, .long bb, .long bc, .ref mt, .long be, .ref mr, .int (nI rs), .ref mo, .int (nI rc), .ref mx, .ref mp, .ref nk, .ref na, .ref nv, .ref nf, .ref ns, .ref ne, .ref nw, .ref mf])), (nk, .inl (cI, 40, .inl fs.2.1)), (na, .inl (cI, 40, .inl fs.2.2.1)), (nv, .inl (cI, 40, .inl fs.2.2.2.1)), (nf, .inl (cI, 40, .inl fs.2.2.2.2.1)), (ns, .inl (cI, 40, .inl fs.2.2.2.2.2))] s.heap.size = A at hD ⊢
  have hA : ∀ q : Nat, s.heap.size ≤ q → A q := fun q h => by rw [← hAe]; exact Or.inr h
  have hS : va_S A s.heap s.heap [] := va_S.rf
  have hP : va_P D kc_all [(o, .inr (7, [.int thr, .int (nI n), .ref ml, .ref mm, .ref mw, .ref mc, .int (nI k), .ref mg, .ref md, .int so, .int fo, .ref mb, .long bb, .long bc, .ref mt, .long be, .ref mr, .int (nI rs), .ref mo, .int (nI rc), .ref mx, .ref mp, .ref nk, .ref na, .ref nv, .ref nf, .ref ns, .ref ne, .ref nw, .ref mf])), (nk, .inl (cI, 40, .inl fs.2.1)), (na, .inl (cI, 40, .inl fs.2.2.1)), (nv, .inl (cI, 40, .inl fs.2.2.2.1)), (nf, .inl (cI, 40, .inl fs.2.2.2.2.1)), (ns, .inl (cI, 40, .inl fs.2.2.2.2.2))] s.heap := hP
  have hl := lv_entry ([.ref o, .int nv0, .int jv, .int xv, .int f1, .int f2]) (n := 7) (Nat.le_of_ble_eq_true rfl)
  rw [lg_entry_eq]
  generalize (lg_sl ([.ref o, .int nv0, .int jv, .int xv, .int f1, .int f2]) ++ List.replicate (7 - (lg_sl ([.ref o, .int nv0, .int jv, .int xv, .int f1, .int f2])).length) Slot.unset).toArray = ls at hl ⊢
  have hl : lv_has ls 7 [(0, .ref o), (1, .int nv0), (2, .int jv), (3, .int xv), (4, .int f1), (5, .int f2)] := hl
  have htb : ∀ w ∈ tb_all, w.before ([.ref o, .int nv0, .int jv, .int xv, .int f1, .int f2]).toArray s = true := fun w h => hts w (List.mem_cons_of_mem _ h)
  have hf_52 := htb _ fl_Model_52
  have hf_55 := htb _ fl_Model_55
  have hf_58 := htb _ fl_Model_58
  have hf_61 := htb _ fl_Model_61
  have hf_64 := htb _ fl_Model_64
  have hf_76 := htb _ fl_Model_76
  have J40 : ∀ (g9 : Int32) (hg : tl_ok (ft_ok nv0 f1 f2) g9), ∀ (ls : Array Slot) (H : Heap) (locs : List Loc), lv_has ls 7 [(0, .ref o), (1, .int nv0), (2, .int jv), (3, .int xv), (4, .int f1), (5, .int f2)] → va_P D kc_all [(o, .inr (7, [.int thr, .int (nI n), .ref ml, .ref mm, .ref mw, .ref mc, .int (nI k), .ref mg, .ref md, .int so, .int fo, .ref mb, .long bb, .long bc, .ref mt, .long be, .ref mr, .int (nI rs), .ref mo, .int (nI rc), .ref mx, .ref mp, .ref nk, .ref na, .ref nv, .ref nf, .ref ns, .ref ne, .ref nw, .ref mf])), (nk, .inl (cI, 40, .inl fs.2.1)), (na, .inl (cI, 40, .inl fs.2.2.1)), (nv, .inl (cI, 40, .inl fs.2.2.2.1)), (nf, .inl (cI, 40, .inl fs.2.2.2.2.1)), (ns, .inl (cI, 40, .inl fs.2.2.2.2.2))] H → va_D A [(o, .inr (7, [.int thr, .int (nI n), .ref ml, .ref mm, .ref mw, .ref mc, .int (nI k), .ref mg, .ref md, .int so, .int fo, .ref mb, .long bb, .long bc, .ref mt, .long be, .ref mr, .int (nI rs), .ref mo, .int (nI rc), .ref mx, .ref mp, .ref nk, .ref na, .ref nv, .ref nf, .ref ns, .ref ne, .ref nw, .ref mf])), (nk, .inl (cI, 40, .inl fs.2.1)), (na, .inl (cI, 40, .inl fs.2.2.1)), (nv, .inl (cI, 40, .inl fs.2.2.2.1)), (nf, .inl (cI, 40, .inl fs.2.2.2.2.1)), (ns, .inl (cI, 40, .inl fs.2.2.2.2.2))] → va_S A s.heap H locs → W p l e (headSpec ww_Model_fork ({ frames := 1, cells := 0, slots := 0, locals := 22 } : Room)).room s m ([.ref o, .int nv0, .int jv, .int xv, .int f1, .int f2]).toArray below meth c H locs 0 0 (MQ below (qq_Model_fork D cI cZ cL cQ o ml mm mw mc mg md mb mt mr mo mx mp nk na nv nf ns ne nw mf thr n k so fo bb bc be rs rc nv0 jv xv f1 f2 fs A) ([.ref o, .int nv0, .int jv, .int xv, .int f1, .int f2]).toArray s 0 0 A) (F0 m 40 ls [.int g9]) := by
    intro g9 hg ls H locs hl hP hD hS
    refine lv_istore (lv' := [(6, .int g9), (0, .ref o), (1, .int nv0), (2, .int jv), (3, .int xv), (4, .int f1), (5, .int f2)]) hx hb dd_Model_fork_40 hl (by decide) rfl (fun ls hl => ?_)
    refine lv_aload_n hx hb dd_Model_fork_42 rfl (lv_at hl 1 rfl) ?_
    refine lv_iload hx hb dd_Model_fork_43 (lv_at hl 0 rfl) ?_
    refine lv_if_ne (tgt := 52) hx hb dd_Model_fork_45 (by decide) (fun h45 => ?_) (fun h45 => ?_)
    · skip
      refine lv_iload_n hx hb dd_Model_fork_52 rfl (lv_at hl 3 rfl) ?_
      refine lv_iconst (v := 0) hx hb dd_Model_fork_53 (by decide) ?_
      refine lv_iconst (v := 3) hx hb dd_Model_fork_54 (by decide) ?_
      refine mm_i (wc := []) (wr := [(o, .inr (7, [.int thr, .int (nI n), .ref ml, .ref mm, .ref mw, .ref mc, .int (nI k), .ref mg, .ref md, .int so, .int fo, .ref mb, .long bb, .long bc, .ref mt, .long be, .ref mr, .int (nI rs), .ref mo, .int (nI rc), .ref mx, .ref mp, .ref nk, .ref na, .ref nv, .ref nf, .ref ns, .ref ne, .ref nw, .ref mf])), (nk, .inl (cI, 40, .inl fs.2.1)), (na, .inl (cI, 40, .inl fs.2.2.1)), (nv, .inl (cI, 40, .inl fs.2.2.2.1)), (nf, .inl (cI, 40, .inl fs.2.2.2.2.1)), (ns, .inl (cI, 40, .inl fs.2.2.2.2.2))]) (va_runS (As := [.int jv, .int (0 : Int32), .int (3 : Int32)]) (rest := [.ref o]) ⟨hx, hb, hml, hown, hts⟩ (cc_Model_isIn l D cI cZ cL cQ _ jv (0 : Int32) (3 : Int32) ) (mm_cwS 3 hts ml_Model_79 sm_Model_isIn ic_Model cd_Model_isIn rfl rfl (by decide +kernel) ⟨Nat.le_of_ble_eq_true rfl, Nat.le_of_ble_eq_true rfl⟩) (mm_preS hK hP hD [] (by decide) rfl) rfl rfl hl.1 rfl (lv_room (Nat.le_of_ble_eq_true rfl)) dd_Model_fork_55 ⟨Nat.zero_le _, Nat.zero_le _⟩) hP hD hS hA [] [0, 1, 2, 3, 4, 5] rfl rfl (by decide) (by decide) (fun zr1 zu2 H locs p55 hP hD hS => ?_)
      have hP : va_P D kc_all [(o, .inr (7, [.int thr, .int (nI n), .ref ml, .ref mm, .ref mw, .ref mc, .int (nI k), .ref mg, .ref md, .int so, .int fo, .ref mb, .long bb, .long bc, .ref mt, .long be, .ref mr, .int (nI rs), .ref mo, .int (nI rc), .ref mx, .ref mp, .ref nk, .ref na, .ref nv, .ref nf, .ref ns, .ref ne, .ref nw, .ref mf])), (nk, .inl (cI, 40, .inl fs.2.1)), (na, .inl (cI, 40, .inl fs.2.2.1)), (nv, .inl (cI, 40, .inl fs.2.2.2.1)), (nf, .inl (cI, 40, .inl fs.2.2.2.2.1)), (ns, .inl (cI, 40, .inl fs.2.2.2.2.2))] H := hP
      have hD : va_D A [(o, .inr (7, [.int thr, .int (nI n), .ref ml, .ref mm, .ref mw, .ref mc, .int (nI k), .ref mg, .ref md, .int so, .int fo, .ref mb, .long bb, .long bc, .ref mt, .long be, .ref mr, .int (nI rs), .ref mo, .int (nI rc), .ref mx, .ref mp, .ref nk, .ref na, .ref nv, .ref nf, .ref ns, .ref ne, .ref nw, .ref mf])), (nk, .inl (cI, 40, .inl fs.2.1)), (na, .inl (cI, 40, .inl fs.2.2.1)), (nv, .inl (cI, 40, .inl fs.2.2.2.1)), (nf, .inl (cI, 40, .inl fs.2.2.2.2.1)), (ns, .inl (cI, 40, .inl fs.2.2.2.2.2))] := hD
      have p55 : tl_ok (in_ok jv (0 : Int32) (3 : Int32)) zr1 := p55
      refine lv_if_eq (tgt := 76) hx hb dd_Model_fork_58 (by decide) (fun h58 => ?_) (fun h58 => ?_)
      · skip
        refine lv_iconst (v := 2) hx hb dd_Model_fork_76 (by decide) ?_
        refine va_put (D := D) (ci := 7) (v := .int (2 : Int32)) (ty := .int) (C := RR_Model) (T := FF_Model) (N := 30) hx hb htb hi_Model tt_Model tt_Model_ok nn_Model hown hK hP hD hS 0 rfl rfl 0 (by decide) hf_76 (fun _ h9 => h9) rfl (by decide +kernel) (rfl) (rfl) (Nat.le_of_ble_eq_true rfl) dd_Model_fork_77 (fun H locs hP hD hS => ?_)
        have hP : va_P D kc_all [(o, .inr (7, [.int (2 : Int32), .int (nI n), .ref ml, .ref mm, .ref mw, .ref mc, .int (nI k), .ref mg, .ref md, .int so, .int fo, .ref mb, .long bb, .long bc, .ref mt, .long be, .ref mr, .int (nI rs), .ref mo, .int (nI rc), .ref mx, .ref mp, .ref nk, .ref na, .ref nv, .ref nf, .ref ns, .ref ne, .ref nw, .ref mf])), (nk, .inl (cI, 40, .inl fs.2.1)), (na, .inl (cI, 40, .inl fs.2.2.1)), (nv, .inl (cI, 40, .inl fs.2.2.2.1)), (nf, .inl (cI, 40, .inl fs.2.2.2.2.1)), (ns, .inl (cI, 40, .inl fs.2.2.2.2.2))] H := hP
        have hD : va_D A [(o, .inr (7, [.int (2 : Int32), .int (nI n), .ref ml, .ref mm, .ref mw, .ref mc, .int (nI k), .ref mg, .ref md, .int so, .int fo, .ref mb, .long bb, .long bc, .ref mt, .long be, .ref mr, .int (nI rs), .ref mo, .int (nI rc), .ref mx, .ref mp, .ref nk, .ref na, .ref nv, .ref nf, .ref ns, .ref ne, .ref nw, .ref mf])), (nk, .inl (cI, 40, .inl fs.2.1)), (na, .inl (cI, 40, .inl fs.2.2.1)), (nv, .inl (cI, 40, .inl fs.2.2.2.1)), (nf, .inl (cI, 40, .inl fs.2.2.2.2.1)), (ns, .inl (cI, 40, .inl fs.2.2.2.2.2))] := hD
        refine lv_aload_n hx hb dd_Model_fork_80 rfl (lv_at hl 1 rfl) ?_
        refine va_get (D := D) (ci := 7) (v := .int (2 : Int32)) (C := RR_Model) (T := FF_Model) (N := 30) hx hb htb hi_Model hown hK hP 0 rfl rfl 0 (by decide) hf_76 (fun _ h9 => h9) rfl dd_Model_fork_81 ?_
        refine lv_if_ne (tgt := 124) hx hb dd_Model_fork_84 (by decide) (fun h84 => ?_) (fun h84 => ?_)
        · skip
          have h84 : ¬ (2 = 0) := fun q9 => h84 ((nI_eq (a := 2) (b := 0) (by omega) (by omega)).mpr q9)
          exact W.vret hx hb hr (fun t ht hW => ⟨⟨((2 : Int32), fs.2.1, fs.2.2.1, fs.2.2.2.1, fs.2.2.2.2.1, fs.2.2.2.2.2), rfl, by first | exact fk_1 (r := 0) hg h45 | exact fk_2 hg h45 (fun q => tl_0 p55 h58 q.1) | exact fk_2 hg h45 (fun q => tl_0 p66 h69 q.2) | exact fk_3 hg h45 ⟨tl_1 p55 h58, tl_1 p66 h69⟩, by rw [ht]; exact hP, va_K.moved hW.alike hK, hD⟩, hS.F ht⟩) hS.2.2 dd_Model_fork_124
        · skip
          have h84 : 2 = 0 := (nI_eq (a := 2) (b := 0) (by omega) (by omega)).mp h84
          omega
      · skip
        refine lv_iload_n hx hb dd_Model_fork_61 rfl (lv_at hl 4 rfl) ?_
        refine lv_bipush (v := (-20)) hx hb dd_Model_fork_62 (by decide) ?_
        refine lv_bipush (v := 20) hx hb dd_Model_fork_64 (by decide) ?_
        refine mm_i (wc := []) (wr := [(o, .inr (7, [.int thr, .int (nI n), .ref ml, .ref mm, .ref mw, .ref mc, .int (nI k), .ref mg, .ref md, .int so, .int fo, .ref mb, .long bb, .long bc, .ref mt, .long be, .ref mr, .int (nI rs), .ref mo, .int (nI rc), .ref mx, .ref mp, .ref nk, .ref na, .ref nv, .ref nf, .ref ns, .ref ne, .ref nw, .ref mf])), (nk, .inl (cI, 40, .inl fs.2.1)), (na, .inl (cI, 40, .inl fs.2.2.1)), (nv, .inl (cI, 40, .inl fs.2.2.2.1)), (nf, .inl (cI, 40, .inl fs.2.2.2.2.1)), (ns, .inl (cI, 40, .inl fs.2.2.2.2.2))]) (va_runS (As := [.int xv, .int (-20 : Int32), .int (20 : Int32)]) (rest := [.ref o]) ⟨hx, hb, hml, hown, hts⟩ (cc_Model_isIn l D cI cZ cL cQ _ xv (-20 : Int32) (20 : Int32) ) (mm_cwS 3 hts ml_Model_79 sm_Model_isIn ic_Model cd_Model_isIn rfl rfl (by decide +kernel) ⟨Nat.le_of_ble_eq_true rfl, Nat.le_of_ble_eq_true rfl⟩) (mm_preS hK hP hD [] (by decide) rfl) rfl rfl hl.1 rfl (lv_room (Nat.le_of_ble_eq_true rfl)) dd_Model_fork_66 ⟨Nat.zero_le _, Nat.zero_le _⟩) hP hD hS hA [] [0, 1, 2, 3, 4, 5] rfl rfl (by decide) (by decide) (fun zr3 zu4 H locs p66 hP hD hS => ?_)
        have hP : va_P D kc_all [(o, .inr (7, [.int thr, .int (nI n), .ref ml, .ref mm, .ref mw, .ref mc, .int (nI k), .ref mg, .ref md, .int so, .int fo, .ref mb, .long bb, .long bc, .ref mt, .long be, .ref mr, .int (nI rs), .ref mo, .int (nI rc), .ref mx, .ref mp, .ref nk, .ref na, .ref nv, .ref nf, .ref ns, .ref ne, .ref nw, .ref mf])), (nk, .inl (cI, 40, .inl fs.2.1)), (na, .inl (cI, 40, .inl fs.2.2.1)), (nv, .inl (cI, 40, .inl fs.2.2.2.1)), (nf, .inl (cI, 40, .inl fs.2.2.2.2.1)), (ns, .inl (cI, 40, .inl fs.2.2.2.2.2))] H := hP
        have hD : va_D A [(o, .inr (7, [.int thr, .int (nI n), .ref ml, .ref mm, .ref mw, .ref mc, .int (nI k), .ref mg, .ref md, .int so, .int fo, .ref mb, .long bb, .long bc, .ref mt, .long be, .ref mr, .int (nI rs), .ref mo, .int (nI rc), .ref mx, .ref mp, .ref nk, .ref na, .ref nv, .ref nf, .ref ns, .ref ne, .ref nw, .ref mf])), (nk, .inl (cI, 40, .inl fs.2.1)), (na, .inl (cI, 40, .inl fs.2.2.1)), (nv, .inl (cI, 40, .inl fs.2.2.2.1)), (nf, .inl (cI, 40, .inl fs.2.2.2.2.1)), (ns, .inl (cI, 40, .inl fs.2.2.2.2.2))] := hD
        have p66 : tl_ok (in_ok xv (-20 : Int32) (20 : Int32)) zr3 := p66
        refine lv_if_eq (tgt := 76) hx hb dd_Model_fork_69 (by decide) (fun h69 => ?_) (fun h69 => ?_)
        · skip
          refine lv_iconst (v := 2) hx hb dd_Model_fork_76 (by decide) ?_
          refine va_put (D := D) (ci := 7) (v := .int (2 : Int32)) (ty := .int) (C := RR_Model) (T := FF_Model) (N := 30) hx hb htb hi_Model tt_Model tt_Model_ok nn_Model hown hK hP hD hS 0 rfl rfl 0 (by decide) hf_76 (fun _ h9 => h9) rfl (by decide +kernel) (rfl) (rfl) (Nat.le_of_ble_eq_true rfl) dd_Model_fork_77 (fun H locs hP hD hS => ?_)
          have hP : va_P D kc_all [(o, .inr (7, [.int (2 : Int32), .int (nI n), .ref ml, .ref mm, .ref mw, .ref mc, .int (nI k), .ref mg, .ref md, .int so, .int fo, .ref mb, .long bb, .long bc, .ref mt, .long be, .ref mr, .int (nI rs), .ref mo, .int (nI rc), .ref mx, .ref mp, .ref nk, .ref na, .ref nv, .ref nf, .ref ns, .ref ne, .ref nw, .ref mf])), (nk, .inl (cI, 40, .inl fs.2.1)), (na, .inl (cI, 40, .inl fs.2.2.1)), (nv, .inl (cI, 40, .inl fs.2.2.2.1)), (nf, .inl (cI, 40, .inl fs.2.2.2.2.1)), (ns, .inl (cI, 40, .inl fs.2.2.2.2.2))] H := hP
          have hD : va_D A [(o, .inr (7, [.int (2 : Int32), .int (nI n), .ref ml, .ref mm, .ref mw, .ref mc, .int (nI k), .ref mg, .ref md, .int so, .int fo, .ref mb, .long bb, .long bc, .ref mt, .long be, .ref mr, .int (nI rs), .ref mo, .int (nI rc), .ref mx, .ref mp, .ref nk, .ref na, .ref nv, .ref nf, .ref ns, .ref ne, .ref nw, .ref mf])), (nk, .inl (cI, 40, .inl fs.2.1)), (na, .inl (cI, 40, .inl fs.2.2.1)), (nv, .inl (cI, 40, .inl fs.2.2.2.1)), (nf, .inl (cI, 40, .inl fs.2.2.2.2.1)), (ns, .inl (cI, 40, .inl fs.2.2.2.2.2))] := hD
          refine lv_aload_n hx hb dd_Model_fork_80 rfl (lv_at hl 1 rfl) ?_
          refine va_get (D := D) (ci := 7) (v := .int (2 : Int32)) (C := RR_Model) (T := FF_Model) (N := 30) hx hb htb hi_Model hown hK hP 0 rfl rfl 0 (by decide) hf_76 (fun _ h9 => h9) rfl dd_Model_fork_81 ?_
          refine lv_if_ne (tgt := 124) hx hb dd_Model_fork_84 (by decide) (fun h84 => ?_) (fun h84 => ?_)
          · skip
            have h84 : ¬ (2 = 0) := fun q9 => h84 ((nI_eq (a := 2) (b := 0) (by omega) (by omega)).mpr q9)
            exact W.vret hx hb hr (fun t ht hW => ⟨⟨((2 : Int32), fs.2.1, fs.2.2.1, fs.2.2.2.1, fs.2.2.2.2.1, fs.2.2.2.2.2), rfl, by first | exact fk_1 (r := 0) hg h45 | exact fk_2 hg h45 (fun q => tl_0 p55 h58 q.1) | exact fk_2 hg h45 (fun q => tl_0 p66 h69 q.2) | exact fk_3 hg h45 ⟨tl_1 p55 h58, tl_1 p66 h69⟩, by rw [ht]; exact hP, va_K.moved hW.alike hK, hD⟩, hS.F ht⟩) hS.2.2 dd_Model_fork_124
          · skip
            have h84 : 2 = 0 := (nI_eq (a := 2) (b := 0) (by omega) (by omega)).mp h84
            omega
        · skip
          refine lv_iconst (v := 0) hx hb dd_Model_fork_72 (by decide) ?_
          refine lv_goto (tgt := 77) hx hb dd_Model_fork_73 (by decide) ?_
          refine va_put (D := D) (ci := 7) (v := .int (0 : Int32)) (ty := .int) (C := RR_Model) (T := FF_Model) (N := 30) hx hb htb hi_Model tt_Model tt_Model_ok nn_Model hown hK hP hD hS 0 rfl rfl 0 (by decide) hf_76 (fun _ h9 => h9) rfl (by decide +kernel) (rfl) (rfl) (Nat.le_of_ble_eq_true rfl) dd_Model_fork_77 (fun H locs hP hD hS => ?_)
          have hP : va_P D kc_all [(o, .inr (7, [.int (0 : Int32), .int (nI n), .ref ml, .ref mm, .ref mw, .ref mc, .int (nI k), .ref mg, .ref md, .int so, .int fo, .ref mb, .long bb, .long bc, .ref mt, .long be, .ref mr, .int (nI rs), .ref mo, .int (nI rc), .ref mx, .ref mp, .ref nk, .ref na, .ref nv, .ref nf, .ref ns, .ref ne, .ref nw, .ref mf])), (nk, .inl (cI, 40, .inl fs.2.1)), (na, .inl (cI, 40, .inl fs.2.2.1)), (nv, .inl (cI, 40, .inl fs.2.2.2.1)), (nf, .inl (cI, 40, .inl fs.2.2.2.2.1)), (ns, .inl (cI, 40, .inl fs.2.2.2.2.2))] H := hP
          have hD : va_D A [(o, .inr (7, [.int (0 : Int32), .int (nI n), .ref ml, .ref mm, .ref mw, .ref mc, .int (nI k), .ref mg, .ref md, .int so, .int fo, .ref mb, .long bb, .long bc, .ref mt, .long be, .ref mr, .int (nI rs), .ref mo, .int (nI rc), .ref mx, .ref mp, .ref nk, .ref na, .ref nv, .ref nf, .ref ns, .ref ne, .ref nw, .ref mf])), (nk, .inl (cI, 40, .inl fs.2.1)), (na, .inl (cI, 40, .inl fs.2.2.1)), (nv, .inl (cI, 40, .inl fs.2.2.2.1)), (nf, .inl (cI, 40, .inl fs.2.2.2.2.1)), (ns, .inl (cI, 40, .inl fs.2.2.2.2.2))] := hD
          refine lv_aload_n hx hb dd_Model_fork_80 rfl (lv_at hl 1 rfl) ?_
          refine va_get (D := D) (ci := 7) (v := .int (0 : Int32)) (C := RR_Model) (T := FF_Model) (N := 30) hx hb htb hi_Model hown hK hP 0 rfl rfl 0 (by decide) hf_76 (fun _ h9 => h9) rfl dd_Model_fork_81 ?_
          refine lv_if_ne (tgt := 124) hx hb dd_Model_fork_84 (by decide) (fun h84 => ?_) (fun h84 => ?_)
          · skip
            have h84 : ¬ (0 = 0) := fun q9 => h84 ((nI_eq (a := 0) (b := 0) (by omega) (by omega)).mpr q9)
            omega
          · skip
            have h84 : 0 = 0 := (nI_eq (a := 0) (b := 0) (by omega) (by omega)).mp h84
            have hnn := nd_nat (tl_1 hg h45).1.1
            refine lv_aload_n hx hb dd_Model_fork_87 rfl (lv_at hl 1 rfl) ?_
            refine va_get (D := D) (ci := 7) (v := .ref nk) (C := RR_Model) (T := FF_Model) (N := 30) hx hb htb hi_Model hown hK hP 0 rfl rfl 22 (by decide) hf_52 (fun _ h9 => h9) rfl dd_Model_fork_88 ?_
            refine lv_iload_n hx hb dd_Model_fork_91 rfl (lv_at hl 2 rfl) ?_
            refine lv_iconst (v := 1) hx hb dd_Model_fork_92 (by decide) ?_
            refine mm_iast hx hb hK hP hD hS 1 0 rfl rfl (nv0.toNatClampNeg) (hnn.1) (hnn.2) (by first | decide | omega) dd_Model_fork_93 (fun H locs hP hD hS => ?_)
            have hP : va_P D kc_all [(o, .inr (7, [.int (0 : Int32), .int (nI n), .ref ml, .ref mm, .ref mw, .ref mc, .int (nI k), .ref mg, .ref md, .int so, .int fo, .ref mb, .long bb, .long bc, .ref mt, .long be, .ref mr, .int (nI rs), .ref mo, .int (nI rc), .ref mx, .ref mp, .ref nk, .ref na, .ref nv, .ref nf, .ref ns, .ref ne, .ref nw, .ref mf])), (nk, .inl (cI, 40, .inl (upd fs.2.1 nv0.toNatClampNeg (1 : Int32)))), (na, .inl (cI, 40, .inl fs.2.2.1)), (nv, .inl (cI, 40, .inl fs.2.2.2.1)), (nf, .inl (cI, 40, .inl fs.2.2.2.2.1)), (ns, .inl (cI, 40, .inl fs.2.2.2.2.2))] H := hP
            have hD : va_D A [(o, .inr (7, [.int (0 : Int32), .int (nI n), .ref ml, .ref mm, .ref mw, .ref mc, .int (nI k), .ref mg, .ref md, .int so, .int fo, .ref mb, .long bb, .long bc, .ref mt, .long be, .ref mr, .int (nI rs), .ref mo, .int (nI rc), .ref mx, .ref mp, .ref nk, .ref na, .ref nv, .ref nf, .ref ns, .ref ne, .ref nw, .ref mf])), (nk, .inl (cI, 40, .inl (upd fs.2.1 nv0.toNatClampNeg (1 : Int32)))), (na, .inl (cI, 40, .inl fs.2.2.1)), (nv, .inl (cI, 40, .inl fs.2.2.2.1)), (nf, .inl (cI, 40, .inl fs.2.2.2.2.1)), (ns, .inl (cI, 40, .inl fs.2.2.2.2.2))] := hD
            refine lv_aload_n hx hb dd_Model_fork_94 rfl (lv_at hl 1 rfl) ?_
            refine va_get (D := D) (ci := 7) (v := .ref na) (C := RR_Model) (T := FF_Model) (N := 30) hx hb htb hi_Model hown hK hP 0 rfl rfl 23 (by decide) hf_55 (fun _ h9 => h9) rfl dd_Model_fork_95 ?_
            refine lv_iload_n hx hb dd_Model_fork_98 rfl (lv_at hl 2 rfl) ?_
            refine lv_iload_n hx hb dd_Model_fork_99 rfl (lv_at hl 3 rfl) ?_
            refine mm_iast hx hb hK hP hD hS 2 0 rfl rfl (nv0.toNatClampNeg) (hnn.1) (hnn.2) (by first | decide | omega) dd_Model_fork_100 (fun H locs hP hD hS => ?_)
            have hP : va_P D kc_all [(o, .inr (7, [.int (0 : Int32), .int (nI n), .ref ml, .ref mm, .ref mw, .ref mc, .int (nI k), .ref mg, .ref md, .int so, .int fo, .ref mb, .long bb, .long bc, .ref mt, .long be, .ref mr, .int (nI rs), .ref mo, .int (nI rc), .ref mx, .ref mp, .ref nk, .ref na, .ref nv, .ref nf, .ref ns, .ref ne, .ref nw, .ref mf])), (nk, .inl (cI, 40, .inl (upd fs.2.1 nv0.toNatClampNeg (1 : Int32)))), (na, .inl (cI, 40, .inl (upd fs.2.2.1 nv0.toNatClampNeg jv))), (nv, .inl (cI, 40, .inl fs.2.2.2.1)), (nf, .inl (cI, 40, .inl fs.2.2.2.2.1)), (ns, .inl (cI, 40, .inl fs.2.2.2.2.2))] H := hP
            have hD : va_D A [(o, .inr (7, [.int (0 : Int32), .int (nI n), .ref ml, .ref mm, .ref mw, .ref mc, .int (nI k), .ref mg, .ref md, .int so, .int fo, .ref mb, .long bb, .long bc, .ref mt, .long be, .ref mr, .int (nI rs), .ref mo, .int (nI rc), .ref mx, .ref mp, .ref nk, .ref na, .ref nv, .ref nf, .ref ns, .ref ne, .ref nw, .ref mf])), (nk, .inl (cI, 40, .inl (upd fs.2.1 nv0.toNatClampNeg (1 : Int32)))), (na, .inl (cI, 40, .inl (upd fs.2.2.1 nv0.toNatClampNeg jv))), (nv, .inl (cI, 40, .inl fs.2.2.2.1)), (nf, .inl (cI, 40, .inl fs.2.2.2.2.1)), (ns, .inl (cI, 40, .inl fs.2.2.2.2.2))] := hD
            refine lv_aload_n hx hb dd_Model_fork_101 rfl (lv_at hl 1 rfl) ?_
            refine va_get (D := D) (ci := 7) (v := .ref nv) (C := RR_Model) (T := FF_Model) (N := 30) hx hb htb hi_Model hown hK hP 0 rfl rfl 24 (by decide) hf_58 (fun _ h9 => h9) rfl dd_Model_fork_102 ?_
            refine lv_iload_n hx hb dd_Model_fork_105 rfl (lv_at hl 2 rfl) ?_
            refine lv_iload_n hx hb dd_Model_fork_106 rfl (lv_at hl 4 rfl) ?_
            refine mm_iast hx hb hK hP hD hS 3 0 rfl rfl (nv0.toNatClampNeg) (hnn.1) (hnn.2) (by first | decide | omega) dd_Model_fork_107 (fun H locs hP hD hS => ?_)
            have hP : va_P D kc_all [(o, .inr (7, [.int (0 : Int32), .int (nI n), .ref ml, .ref mm, .ref mw, .ref mc, .int (nI k), .ref mg, .ref md, .int so, .int fo, .ref mb, .long bb, .long bc, .ref mt, .long be, .ref mr, .int (nI rs), .ref mo, .int (nI rc), .ref mx, .ref mp, .ref nk, .ref na, .ref nv, .ref nf, .ref ns, .ref ne, .ref nw, .ref mf])), (nk, .inl (cI, 40, .inl (upd fs.2.1 nv0.toNatClampNeg (1 : Int32)))), (na, .inl (cI, 40, .inl (upd fs.2.2.1 nv0.toNatClampNeg jv))), (nv, .inl (cI, 40, .inl (upd fs.2.2.2.1 nv0.toNatClampNeg xv))), (nf, .inl (cI, 40, .inl fs.2.2.2.2.1)), (ns, .inl (cI, 40, .inl fs.2.2.2.2.2))] H := hP
            have hD : va_D A [(o, .inr (7, [.int (0 : Int32), .int (nI n), .ref ml, .ref mm, .ref mw, .ref mc, .int (nI k), .ref mg, .ref md, .int so, .int fo, .ref mb, .long bb, .long bc, .ref mt, .long be, .ref mr, .int (nI rs), .ref mo, .int (nI rc), .ref mx, .ref mp, .ref nk, .ref na, .ref nv, .ref nf, .ref ns, .ref ne, .ref nw, .ref mf])), (nk, .inl (cI, 40, .inl (upd fs.2.1 nv0.toNatClampNeg (1 : Int32)))), (na, .inl (cI, 40, .inl (upd fs.2.2.1 nv0.toNatClampNeg jv))), (nv, .inl (cI, 40, .inl (upd fs.2.2.2.1 nv0.toNatClampNeg xv))), (nf, .inl (cI, 40, .inl fs.2.2.2.2.1)), (ns, .inl (cI, 40, .inl fs.2.2.2.2.2))] := hD
            refine lv_aload_n hx hb dd_Model_fork_108 rfl (lv_at hl 1 rfl) ?_
            refine va_get (D := D) (ci := 7) (v := .ref nf) (C := RR_Model) (T := FF_Model) (N := 30) hx hb htb hi_Model hown hK hP 0 rfl rfl 25 (by decide) hf_61 (fun _ h9 => h9) rfl dd_Model_fork_109 ?_
            refine lv_iload_n hx hb dd_Model_fork_112 rfl (lv_at hl 2 rfl) ?_
            refine lv_iload hx hb dd_Model_fork_113 (lv_at hl 5 rfl) ?_
            refine mm_iast hx hb hK hP hD hS 4 0 rfl rfl (nv0.toNatClampNeg) (hnn.1) (hnn.2) (by first | decide | omega) dd_Model_fork_115 (fun H locs hP hD hS => ?_)
            have hP : va_P D kc_all [(o, .inr (7, [.int (0 : Int32), .int (nI n), .ref ml, .ref mm, .ref mw, .ref mc, .int (nI k), .ref mg, .ref md, .int so, .int fo, .ref mb, .long bb, .long bc, .ref mt, .long be, .ref mr, .int (nI rs), .ref mo, .int (nI rc), .ref mx, .ref mp, .ref nk, .ref na, .ref nv, .ref nf, .ref ns, .ref ne, .ref nw, .ref mf])), (nk, .inl (cI, 40, .inl (upd fs.2.1 nv0.toNatClampNeg (1 : Int32)))), (na, .inl (cI, 40, .inl (upd fs.2.2.1 nv0.toNatClampNeg jv))), (nv, .inl (cI, 40, .inl (upd fs.2.2.2.1 nv0.toNatClampNeg xv))), (nf, .inl (cI, 40, .inl (upd fs.2.2.2.2.1 nv0.toNatClampNeg f1))), (ns, .inl (cI, 40, .inl fs.2.2.2.2.2))] H := hP
            have hD : va_D A [(o, .inr (7, [.int (0 : Int32), .int (nI n), .ref ml, .ref mm, .ref mw, .ref mc, .int (nI k), .ref mg, .ref md, .int so, .int fo, .ref mb, .long bb, .long bc, .ref mt, .long be, .ref mr, .int (nI rs), .ref mo, .int (nI rc), .ref mx, .ref mp, .ref nk, .ref na, .ref nv, .ref nf, .ref ns, .ref ne, .ref nw, .ref mf])), (nk, .inl (cI, 40, .inl (upd fs.2.1 nv0.toNatClampNeg (1 : Int32)))), (na, .inl (cI, 40, .inl (upd fs.2.2.1 nv0.toNatClampNeg jv))), (nv, .inl (cI, 40, .inl (upd fs.2.2.2.1 nv0.toNatClampNeg xv))), (nf, .inl (cI, 40, .inl (upd fs.2.2.2.2.1 nv0.toNatClampNeg f1))), (ns, .inl (cI, 40, .inl fs.2.2.2.2.2))] := hD
            refine lv_aload_n hx hb dd_Model_fork_116 rfl (lv_at hl 1 rfl) ?_
            refine va_get (D := D) (ci := 7) (v := .ref ns) (C := RR_Model) (T := FF_Model) (N := 30) hx hb htb hi_Model hown hK hP 0 rfl rfl 26 (by decide) hf_64 (fun _ h9 => h9) rfl dd_Model_fork_117 ?_
            refine lv_iload_n hx hb dd_Model_fork_120 rfl (lv_at hl 2 rfl) ?_
            refine lv_iload hx hb dd_Model_fork_121 (lv_at hl 6 rfl) ?_
            refine mm_iast hx hb hK hP hD hS 5 0 rfl rfl (nv0.toNatClampNeg) (hnn.1) (hnn.2) (by first | decide | omega) dd_Model_fork_123 (fun H locs hP hD hS => ?_)
            have hP : va_P D kc_all [(o, .inr (7, [.int (0 : Int32), .int (nI n), .ref ml, .ref mm, .ref mw, .ref mc, .int (nI k), .ref mg, .ref md, .int so, .int fo, .ref mb, .long bb, .long bc, .ref mt, .long be, .ref mr, .int (nI rs), .ref mo, .int (nI rc), .ref mx, .ref mp, .ref nk, .ref na, .ref nv, .ref nf, .ref ns, .ref ne, .ref nw, .ref mf])), (nk, .inl (cI, 40, .inl (upd fs.2.1 nv0.toNatClampNeg (1 : Int32)))), (na, .inl (cI, 40, .inl (upd fs.2.2.1 nv0.toNatClampNeg jv))), (nv, .inl (cI, 40, .inl (upd fs.2.2.2.1 nv0.toNatClampNeg xv))), (nf, .inl (cI, 40, .inl (upd fs.2.2.2.2.1 nv0.toNatClampNeg f1))), (ns, .inl (cI, 40, .inl (upd fs.2.2.2.2.2 nv0.toNatClampNeg f2)))] H := hP
            have hD : va_D A [(o, .inr (7, [.int (0 : Int32), .int (nI n), .ref ml, .ref mm, .ref mw, .ref mc, .int (nI k), .ref mg, .ref md, .int so, .int fo, .ref mb, .long bb, .long bc, .ref mt, .long be, .ref mr, .int (nI rs), .ref mo, .int (nI rc), .ref mx, .ref mp, .ref nk, .ref na, .ref nv, .ref nf, .ref ns, .ref ne, .ref nw, .ref mf])), (nk, .inl (cI, 40, .inl (upd fs.2.1 nv0.toNatClampNeg (1 : Int32)))), (na, .inl (cI, 40, .inl (upd fs.2.2.1 nv0.toNatClampNeg jv))), (nv, .inl (cI, 40, .inl (upd fs.2.2.2.1 nv0.toNatClampNeg xv))), (nf, .inl (cI, 40, .inl (upd fs.2.2.2.2.1 nv0.toNatClampNeg f1))), (ns, .inl (cI, 40, .inl (upd fs.2.2.2.2.2 nv0.toNatClampNeg f2)))] := hD
            exact W.vret hx hb hr (fun t ht hW => ⟨⟨((0 : Int32), upd fs.2.1 nv0.toNatClampNeg (1 : Int32), upd fs.2.2.1 nv0.toNatClampNeg jv, upd fs.2.2.2.1 nv0.toNatClampNeg xv, upd fs.2.2.2.2.1 nv0.toNatClampNeg f1, upd fs.2.2.2.2.2 nv0.toNatClampNeg f2), rfl, by first | exact fk_1 (r := 0) hg h45 | exact fk_2 hg h45 (fun q => tl_0 p55 h58 q.1) | exact fk_2 hg h45 (fun q => tl_0 p66 h69 q.2) | exact fk_3 hg h45 ⟨tl_1 p55 h58, tl_1 p66 h69⟩, by rw [ht]; exact hP, va_K.moved hW.alike hK, hD⟩, hS.F ht⟩) hS.2.2 dd_Model_fork_124
    · skip
      refine lv_iconst (v := 1) hx hb dd_Model_fork_48 (by decide) ?_
      refine lv_goto (tgt := 77) hx hb dd_Model_fork_49 (by decide) ?_
      refine va_put (D := D) (ci := 7) (v := .int (1 : Int32)) (ty := .int) (C := RR_Model) (T := FF_Model) (N := 30) hx hb htb hi_Model tt_Model tt_Model_ok nn_Model hown hK hP hD hS 0 rfl rfl 0 (by decide) hf_76 (fun _ h9 => h9) rfl (by decide +kernel) (rfl) (rfl) (Nat.le_of_ble_eq_true rfl) dd_Model_fork_77 (fun H locs hP hD hS => ?_)
      have hP : va_P D kc_all [(o, .inr (7, [.int (1 : Int32), .int (nI n), .ref ml, .ref mm, .ref mw, .ref mc, .int (nI k), .ref mg, .ref md, .int so, .int fo, .ref mb, .long bb, .long bc, .ref mt, .long be, .ref mr, .int (nI rs), .ref mo, .int (nI rc), .ref mx, .ref mp, .ref nk, .ref na, .ref nv, .ref nf, .ref ns, .ref ne, .ref nw, .ref mf])), (nk, .inl (cI, 40, .inl fs.2.1)), (na, .inl (cI, 40, .inl fs.2.2.1)), (nv, .inl (cI, 40, .inl fs.2.2.2.1)), (nf, .inl (cI, 40, .inl fs.2.2.2.2.1)), (ns, .inl (cI, 40, .inl fs.2.2.2.2.2))] H := hP
      have hD : va_D A [(o, .inr (7, [.int (1 : Int32), .int (nI n), .ref ml, .ref mm, .ref mw, .ref mc, .int (nI k), .ref mg, .ref md, .int so, .int fo, .ref mb, .long bb, .long bc, .ref mt, .long be, .ref mr, .int (nI rs), .ref mo, .int (nI rc), .ref mx, .ref mp, .ref nk, .ref na, .ref nv, .ref nf, .ref ns, .ref ne, .ref nw, .ref mf])), (nk, .inl (cI, 40, .inl fs.2.1)), (na, .inl (cI, 40, .inl fs.2.2.1)), (nv, .inl (cI, 40, .inl fs.2.2.2.1)), (nf, .inl (cI, 40, .inl fs.2.2.2.2.1)), (ns, .inl (cI, 40, .inl fs.2.2.2.2.2))] := hD
      refine lv_aload_n hx hb dd_Model_fork_80 rfl (lv_at hl 1 rfl) ?_
      refine va_get (D := D) (ci := 7) (v := .int (1 : Int32)) (C := RR_Model) (T := FF_Model) (N := 30) hx hb htb hi_Model hown hK hP 0 rfl rfl 0 (by decide) hf_76 (fun _ h9 => h9) rfl dd_Model_fork_81 ?_
      refine lv_if_ne (tgt := 124) hx hb dd_Model_fork_84 (by decide) (fun h84 => ?_) (fun h84 => ?_)
      · skip
        have h84 : ¬ (1 = 0) := fun q9 => h84 ((nI_eq (a := 1) (b := 0) (by omega) (by omega)).mpr q9)
        exact W.vret hx hb hr (fun t ht hW => ⟨⟨((1 : Int32), fs.2.1, fs.2.2.1, fs.2.2.2.1, fs.2.2.2.2.1, fs.2.2.2.2.2), rfl, by first | exact fk_1 (r := 0) hg h45 | exact fk_2 hg h45 (fun q => tl_0 p55 h58 q.1) | exact fk_2 hg h45 (fun q => tl_0 p66 h69 q.2) | exact fk_3 hg h45 ⟨tl_1 p55 h58, tl_1 p66 h69⟩, by rw [ht]; exact hP, va_K.moved hW.alike hK, hD⟩, hS.F ht⟩) hS.2.2 dd_Model_fork_124
      · skip
        have h84 : 1 = 0 := (nI_eq (a := 1) (b := 0) (by omega) (by omega)).mp h84
        omega
  refine lv_iload_n hx hb dd_Model_fork_0 rfl (lv_at hl 1 rfl) ?_
  refine mm_i (wc := []) (wr := [(o, .inr (7, [.int thr, .int (nI n), .ref ml, .ref mm, .ref mw, .ref mc, .int (nI k), .ref mg, .ref md, .int so, .int fo, .ref mb, .long bb, .long bc, .ref mt, .long be, .ref mr, .int (nI rs), .ref mo, .int (nI rc), .ref mx, .ref mp, .ref nk, .ref na, .ref nv, .ref nf, .ref ns, .ref ne, .ref nw, .ref mf])), (nk, .inl (cI, 40, .inl fs.2.1)), (na, .inl (cI, 40, .inl fs.2.2.1)), (nv, .inl (cI, 40, .inl fs.2.2.2.1)), (nf, .inl (cI, 40, .inl fs.2.2.2.2.1)), (ns, .inl (cI, 40, .inl fs.2.2.2.2.2))]) (va_runS (As := [.int nv0]) (rest := []) ⟨hx, hb, hml, hown, hts⟩ (cc_Model_isNode l D cI cZ cL cQ _ nv0 ) (mm_cwS 1 hts ml_Model_148 sm_Model_isNode ic_Model cd_Model_isNode rfl rfl (by decide +kernel) ⟨Nat.le_of_ble_eq_true rfl, Nat.le_of_ble_eq_true rfl⟩) (mm_preS hK hP hD [] (by decide) rfl) rfl rfl hl.1 rfl (lv_room (Nat.le_of_ble_eq_true rfl)) dd_Model_fork_1 ⟨Nat.zero_le _, Nat.zero_le _⟩) hP hD hS hA [] [0, 1, 2, 3, 4, 5] rfl rfl (by decide) (by decide) (fun zr5 zu6 H locs p1 hP hD hS => ?_)
  have hP : va_P D kc_all [(o, .inr (7, [.int thr, .int (nI n), .ref ml, .ref mm, .ref mw, .ref mc, .int (nI k), .ref mg, .ref md, .int so, .int fo, .ref mb, .long bb, .long bc, .ref mt, .long be, .ref mr, .int (nI rs), .ref mo, .int (nI rc), .ref mx, .ref mp, .ref nk, .ref na, .ref nv, .ref nf, .ref ns, .ref ne, .ref nw, .ref mf])), (nk, .inl (cI, 40, .inl fs.2.1)), (na, .inl (cI, 40, .inl fs.2.2.1)), (nv, .inl (cI, 40, .inl fs.2.2.2.1)), (nf, .inl (cI, 40, .inl fs.2.2.2.2.1)), (ns, .inl (cI, 40, .inl fs.2.2.2.2.2))] H := hP
  have hD : va_D A [(o, .inr (7, [.int thr, .int (nI n), .ref ml, .ref mm, .ref mw, .ref mc, .int (nI k), .ref mg, .ref md, .int so, .int fo, .ref mb, .long bb, .long bc, .ref mt, .long be, .ref mr, .int (nI rs), .ref mo, .int (nI rc), .ref mx, .ref mp, .ref nk, .ref na, .ref nv, .ref nf, .ref ns, .ref ne, .ref nw, .ref mf])), (nk, .inl (cI, 40, .inl fs.2.1)), (na, .inl (cI, 40, .inl fs.2.2.1)), (nv, .inl (cI, 40, .inl fs.2.2.2.1)), (nf, .inl (cI, 40, .inl fs.2.2.2.2.1)), (ns, .inl (cI, 40, .inl fs.2.2.2.2.2))] := hD
  have p1 : tl_ok (0 ≤ nv0 ∧ nv0 < 40) zr5 := p1
  refine lv_if_eq (tgt := 39) hx hb dd_Model_fork_4 (by decide) (fun h4 => ?_) (fun h4 => ?_)
  · skip
    refine lv_iconst (v := 0) hx hb dd_Model_fork_39 (by decide) ?_
    exact J40 (0 : Int32) (by first | exact ft_1 p1 h4 | exact ft_2 p9 h12 | exact ft_3 p17 h20 | exact ft_4 h26 | exact ft_5 h32 | exact ft_6 p1 h4 p9 h12 p17 h20 h26 h32) ls H locs (lv_sub hl [0, 1, 2, 3, 4, 5] rfl) hP hD hS
  · skip
    refine lv_iload hx hb dd_Model_fork_7 (lv_at hl 4 rfl) ?_
    refine mm_i (wc := []) (wr := [(o, .inr (7, [.int thr, .int (nI n), .ref ml, .ref mm, .ref mw, .ref mc, .int (nI k), .ref mg, .ref md, .int so, .int fo, .ref mb, .long bb, .long bc, .ref mt, .long be, .ref mr, .int (nI rs), .ref mo, .int (nI rc), .ref mx, .ref mp, .ref nk, .ref na, .ref nv, .ref nf, .ref ns, .ref ne, .ref nw, .ref mf])), (nk, .inl (cI, 40, .inl fs.2.1)), (na, .inl (cI, 40, .inl fs.2.2.1)), (nv, .inl (cI, 40, .inl fs.2.2.2.1)), (nf, .inl (cI, 40, .inl fs.2.2.2.2.1)), (ns, .inl (cI, 40, .inl fs.2.2.2.2.2))]) (va_runS (As := [.int f1]) (rest := []) ⟨hx, hb, hml, hown, hts⟩ (cc_Model_isNode l D cI cZ cL cQ _ f1 ) (mm_cwS 1 hts ml_Model_148 sm_Model_isNode ic_Model cd_Model_isNode rfl rfl (by decide +kernel) ⟨Nat.le_of_ble_eq_true rfl, Nat.le_of_ble_eq_true rfl⟩) (mm_preS hK hP hD [] (by decide) rfl) rfl rfl hl.1 rfl (lv_room (Nat.le_of_ble_eq_true rfl)) dd_Model_fork_9 ⟨Nat.zero_le _, Nat.zero_le _⟩) hP hD hS hA [] [0, 1, 2, 3, 4, 5] rfl rfl (by decide) (by decide) (fun zr7 zu8 H locs p9 hP hD hS => ?_)
    have hP : va_P D kc_all [(o, .inr (7, [.int thr, .int (nI n), .ref ml, .ref mm, .ref mw, .ref mc, .int (nI k), .ref mg, .ref md, .int so, .int fo, .ref mb, .long bb, .long bc, .ref mt, .long be, .ref mr, .int (nI rs), .ref mo, .int (nI rc), .ref mx, .ref mp, .ref nk, .ref na, .ref nv, .ref nf, .ref ns, .ref ne, .ref nw, .ref mf])), (nk, .inl (cI, 40, .inl fs.2.1)), (na, .inl (cI, 40, .inl fs.2.2.1)), (nv, .inl (cI, 40, .inl fs.2.2.2.1)), (nf, .inl (cI, 40, .inl fs.2.2.2.2.1)), (ns, .inl (cI, 40, .inl fs.2.2.2.2.2))] H := hP
    have hD : va_D A [(o, .inr (7, [.int thr, .int (nI n), .ref ml, .ref mm, .ref mw, .ref mc, .int (nI k), .ref mg, .ref md, .int so, .int fo, .ref mb, .long bb, .long bc, .ref mt, .long be, .ref mr, .int (nI rs), .ref mo, .int (nI rc), .ref mx, .ref mp, .ref nk, .ref na, .ref nv, .ref nf, .ref ns, .ref ne, .ref nw, .ref mf])), (nk, .inl (cI, 40, .inl fs.2.1)), (na, .inl (cI, 40, .inl fs.2.2.1)), (nv, .inl (cI, 40, .inl fs.2.2.2.1)), (nf, .inl (cI, 40, .inl fs.2.2.2.2.1)), (ns, .inl (cI, 40, .inl fs.2.2.2.2.2))] := hD
    have p9 : tl_ok (0 ≤ f1 ∧ f1 < 40) zr7 := p9
    refine lv_if_eq (tgt := 39) hx hb dd_Model_fork_12 (by decide) (fun h12 => ?_) (fun h12 => ?_)
    · skip
      refine lv_iconst (v := 0) hx hb dd_Model_fork_39 (by decide) ?_
      exact J40 (0 : Int32) (by first | exact ft_1 p1 h4 | exact ft_2 p9 h12 | exact ft_3 p17 h20 | exact ft_4 h26 | exact ft_5 h32 | exact ft_6 p1 h4 p9 h12 p17 h20 h26 h32) ls H locs (lv_sub hl [0, 1, 2, 3, 4, 5] rfl) hP hD hS
    · skip
      refine lv_iload hx hb dd_Model_fork_15 (lv_at hl 5 rfl) ?_
      refine mm_i (wc := []) (wr := [(o, .inr (7, [.int thr, .int (nI n), .ref ml, .ref mm, .ref mw, .ref mc, .int (nI k), .ref mg, .ref md, .int so, .int fo, .ref mb, .long bb, .long bc, .ref mt, .long be, .ref mr, .int (nI rs), .ref mo, .int (nI rc), .ref mx, .ref mp, .ref nk, .ref na, .ref nv, .ref nf, .ref ns, .ref ne, .ref nw, .ref mf])), (nk, .inl (cI, 40, .inl fs.2.1)), (na, .inl (cI, 40, .inl fs.2.2.1)), (nv, .inl (cI, 40, .inl fs.2.2.2.1)), (nf, .inl (cI, 40, .inl fs.2.2.2.2.1)), (ns, .inl (cI, 40, .inl fs.2.2.2.2.2))]) (va_runS (As := [.int f2]) (rest := []) ⟨hx, hb, hml, hown, hts⟩ (cc_Model_isNode l D cI cZ cL cQ _ f2 ) (mm_cwS 1 hts ml_Model_148 sm_Model_isNode ic_Model cd_Model_isNode rfl rfl (by decide +kernel) ⟨Nat.le_of_ble_eq_true rfl, Nat.le_of_ble_eq_true rfl⟩) (mm_preS hK hP hD [] (by decide) rfl) rfl rfl hl.1 rfl (lv_room (Nat.le_of_ble_eq_true rfl)) dd_Model_fork_17 ⟨Nat.zero_le _, Nat.zero_le _⟩) hP hD hS hA [] [0, 1, 2, 3, 4, 5] rfl rfl (by decide) (by decide) (fun zr9 zu10 H locs p17 hP hD hS => ?_)
      have hP : va_P D kc_all [(o, .inr (7, [.int thr, .int (nI n), .ref ml, .ref mm, .ref mw, .ref mc, .int (nI k), .ref mg, .ref md, .int so, .int fo, .ref mb, .long bb, .long bc, .ref mt, .long be, .ref mr, .int (nI rs), .ref mo, .int (nI rc), .ref mx, .ref mp, .ref nk, .ref na, .ref nv, .ref nf, .ref ns, .ref ne, .ref nw, .ref mf])), (nk, .inl (cI, 40, .inl fs.2.1)), (na, .inl (cI, 40, .inl fs.2.2.1)), (nv, .inl (cI, 40, .inl fs.2.2.2.1)), (nf, .inl (cI, 40, .inl fs.2.2.2.2.1)), (ns, .inl (cI, 40, .inl fs.2.2.2.2.2))] H := hP
      have hD : va_D A [(o, .inr (7, [.int thr, .int (nI n), .ref ml, .ref mm, .ref mw, .ref mc, .int (nI k), .ref mg, .ref md, .int so, .int fo, .ref mb, .long bb, .long bc, .ref mt, .long be, .ref mr, .int (nI rs), .ref mo, .int (nI rc), .ref mx, .ref mp, .ref nk, .ref na, .ref nv, .ref nf, .ref ns, .ref ne, .ref nw, .ref mf])), (nk, .inl (cI, 40, .inl fs.2.1)), (na, .inl (cI, 40, .inl fs.2.2.1)), (nv, .inl (cI, 40, .inl fs.2.2.2.1)), (nf, .inl (cI, 40, .inl fs.2.2.2.2.1)), (ns, .inl (cI, 40, .inl fs.2.2.2.2.2))] := hD
      have p17 : tl_ok (0 ≤ f2 ∧ f2 < 40) zr9 := p17
      refine lv_if_eq (tgt := 39) hx hb dd_Model_fork_20 (by decide) (fun h20 => ?_) (fun h20 => ?_)
      · skip
        refine lv_iconst (v := 0) hx hb dd_Model_fork_39 (by decide) ?_
        exact J40 (0 : Int32) (by first | exact ft_1 p1 h4 | exact ft_2 p9 h12 | exact ft_3 p17 h20 | exact ft_4 h26 | exact ft_5 h32 | exact ft_6 p1 h4 p9 h12 p17 h20 h26 h32) ls H locs (lv_sub hl [0, 1, 2, 3, 4, 5] rfl) hP hD hS
      · skip
        refine lv_iload hx hb dd_Model_fork_23 (lv_at hl 4 rfl) ?_
        refine lv_iload_n hx hb dd_Model_fork_25 rfl (lv_at hl 1 rfl) ?_
        refine lv_icmp_le (tgt := 39) hx hb dd_Model_fork_26 (by decide) (fun h26 => ?_) (fun h26 => ?_)
        · skip
          refine lv_iconst (v := 0) hx hb dd_Model_fork_39 (by decide) ?_
          exact J40 (0 : Int32) (by first | exact ft_1 p1 h4 | exact ft_2 p9 h12 | exact ft_3 p17 h20 | exact ft_4 h26 | exact ft_5 h32 | exact ft_6 p1 h4 p9 h12 p17 h20 h26 h32) ls H locs (lv_sub hl [0, 1, 2, 3, 4, 5] rfl) hP hD hS
        · skip
          refine lv_iload hx hb dd_Model_fork_29 (lv_at hl 5 rfl) ?_
          refine lv_iload_n hx hb dd_Model_fork_31 rfl (lv_at hl 1 rfl) ?_
          refine lv_icmp_le (tgt := 39) hx hb dd_Model_fork_32 (by decide) (fun h32 => ?_) (fun h32 => ?_)
          · skip
            refine lv_iconst (v := 0) hx hb dd_Model_fork_39 (by decide) ?_
            exact J40 (0 : Int32) (by first | exact ft_1 p1 h4 | exact ft_2 p9 h12 | exact ft_3 p17 h20 | exact ft_4 h26 | exact ft_5 h32 | exact ft_6 p1 h4 p9 h12 p17 h20 h26 h32) ls H locs (lv_sub hl [0, 1, 2, 3, 4, 5] rfl) hP hD hS
          · skip
            refine lv_iconst (v := 1) hx hb dd_Model_fork_35 (by decide) ?_
            refine lv_goto (tgt := 40) hx hb dd_Model_fork_36 (by decide) ?_
            exact J40 (1 : Int32) (by first | exact ft_1 p1 h4 | exact ft_2 p9 h12 | exact ft_3 p17 h20 | exact ft_4 h26 | exact ft_5 h32 | exact ft_6 p1 h4 p9 h12 p17 h20 h26 h32) ls H locs (lv_sub hl [0, 1, 2, 3, 4, 5] rfl) hP hD hS
abbrev qq_Model_clear (D : va_G) (cI cZ cL cQ : ClassId) (o : Nat) (ml : Nat) (mm : Nat) (mw : Nat) (mc : Nat) (mg : Nat) (md : Nat) (mb : Nat) (mt : Nat) (mr : Nat) (mo : Nat) (mx : Nat) (mp : Nat) (nk : Nat) (na : Nat) (nv : Nat) (nf : Nat) (ns : Nat) (ne : Nat) (nw : Nat) (mf : Nat) (thr : Int32) (n : Nat) (k : Nat) (so : Int32) (fo : Int32) (bb : Int64) (bc : Int64) (be : Int64) (rs : Nat) (rc : Nat) (nv0 : Int32) (kd : Nat → Int32) (A : Nat → Prop) : Array Value → State → Outcome → State → Prop := va_Qv (fun u : (Int32 × (Nat → Int32)) => u = ci_f (nd_ok nv0) (0, upd kd nv0.toNatClampNeg 0) (1, kd)) (fun (u : (Int32 × (Nat → Int32))) t => mm_B D kc_all [(cI, .int), (cZ, .boolean), (cL, .long), (cQ, .array .int)] A [(o, .inr (7, [.int u.1, .int (nI n), .ref ml, .ref mm, .ref mw, .ref mc, .int (nI k), .ref mg, .ref md, .int so, .int fo, .ref mb, .long bb, .long bc, .ref mt, .long be, .ref mr, .int (nI rs), .ref mo, .int (nI rc), .ref mx, .ref mp, .ref nk, .ref na, .ref nv, .ref nf, .ref ns, .ref ne, .ref nw, .ref mf])), (nk, .inl (cI, 40, .inl u.2))] t) A
set_option maxHeartbeats 4000000 in
set_option maxRecDepth 100000 in
theorem cc_Model_clear (l : Launch) (D : va_G) (cI cZ cL cQ : ClassId) (sz : Nat) (o : Nat) (ml : Nat) (mm : Nat) (mw : Nat) (mc : Nat) (mg : Nat) (md : Nat) (mb : Nat) (mt : Nat) (mr : Nat) (mo : Nat) (mx : Nat) (mp : Nat) (nk : Nat) (na : Nat) (nv : Nat) (nf : Nat) (ns : Nat) (ne : Nat) (nw : Nat) (mf : Nat) (thr : Int32) (n : Nat) (k : Nat) (so : Int32) (fo : Int32) (bb : Int64) (bc : Int64) (be : Int64) (rs : Nat) (rc : Nat) (nv0 : Int32) (kd : Nat → Int32)  : Met l yy_Model_clear ww_Model_clear ({ frames := 1, cells := 0, slots := 0, locals := 20 } : Room) (mm_Pc D kc_all [(cI, .int), (cZ, .boolean), (cL, .long), (cQ, .array .int)] sz [(o, .inr (7, [.int thr, .int (nI n), .ref ml, .ref mm, .ref mw, .ref mc, .int (nI k), .ref mg, .ref md, .int so, .int fo, .ref mb, .long bb, .long bc, .ref mt, .long be, .ref mr, .int (nI rs), .ref mo, .int (nI rc), .ref mx, .ref mp, .ref nk, .ref na, .ref nv, .ref nf, .ref ns, .ref ne, .ref nw, .ref mf])), (nk, .inl (cI, 40, .inl kd))] [.ref o, .int nv0]) (qq_Model_clear D cI cZ cL cQ o ml mm mw mc mg md mb mt mr mo mx mp nk na nv nf ns ne nw mf thr n k so fo bb bc be rs rc nv0 kd (va_A [(o, .inr (7, [.int thr, .int (nI n), .ref ml, .ref mm, .ref mw, .ref mc, .int (nI k), .ref mg, .ref md, .int so, .int fo, .ref mb, .long bb, .long bc, .ref mt, .long be, .ref mr, .int (nI rs), .ref mo, .int (nI rc), .ref mx, .ref mp, .ref nk, .ref na, .ref nv, .ref nf, .ref ns, .ref ne, .ref nw, .ref mf])), (nk, .inl (cI, 40, .inl kd))] sz)) 0 0 (va_A [(o, .inr (7, [.int thr, .int (nI n), .ref ml, .ref mm, .ref mw, .ref mc, .int (nI k), .ref mg, .ref md, .int so, .int fo, .ref mb, .long bb, .long bc, .ref mt, .long be, .ref mr, .int (nI rs), .ref mo, .int (nI rc), .ref mx, .ref mp, .ref nk, .ref na, .ref nv, .ref nf, .ref ns, .ref ne, .ref nw, .ref mf])), (nk, .inl (cI, 40, .inl kd))] sz) := by
  refine Met.ofW (cc := bb_Model_clear) (maxL := 2) (ret := none) (by decide) rfl ?_
  intro p e s m args below meth c s₁ B hml hv
  obtain ⟨rfl, hsz, hP, hK, hD0⟩ := hv
  have hx := B.exec
  have hb := B.bytes
  have hr := B.returns
  have hts := atoms_spec (ws := ww_Model_clear) B.pre
  have hown : s.vm.findClass RR_Model = some m.cls := findClass_of_methodNamed B.named
  have hlocks := B.notSynchronized
  subst hsz
  have hD := hD0.self (sz := s.heap.size)
  generalize hAe : va_A [(o, .inr (7, [.int thr, .int (nI n), .ref ml, .ref mm, .ref mw, .ref mc, .int (nI k), .ref mg, .ref md, .int so, .int fo, .ref mb, .long bb, .long bc, .ref mt, .long be, .ref mr, .int (nI rs), .ref mo, .int (nI rc), .ref mx, .ref mp, .ref nk, .ref na, .ref nv, .ref nf, .ref ns, .ref ne, .ref nw, .ref mf])), (nk, .inl (cI, 40, .inl kd))] s.heap.size = A at hD ⊢
  have hA : ∀ q : Nat, s.heap.size ≤ q → A q := fun q h => by rw [← hAe]; exact Or.inr h
  have hS : va_S A s.heap s.heap [] := va_S.rf
  have hP : va_P D kc_all [(o, .inr (7, [.int thr, .int (nI n), .ref ml, .ref mm, .ref mw, .ref mc, .int (nI k), .ref mg, .ref md, .int so, .int fo, .ref mb, .long bb, .long bc, .ref mt, .long be, .ref mr, .int (nI rs), .ref mo, .int (nI rc), .ref mx, .ref mp, .ref nk, .ref na, .ref nv, .ref nf, .ref ns, .ref ne, .ref nw, .ref mf])), (nk, .inl (cI, 40, .inl kd))] s.heap := hP
  have hl := lv_entry ([.ref o, .int nv0]) (n := 2) (Nat.le_of_ble_eq_true rfl)
  rw [lg_entry_eq]
  generalize (lg_sl ([.ref o, .int nv0]) ++ List.replicate (2 - (lg_sl ([.ref o, .int nv0])).length) Slot.unset).toArray = ls at hl ⊢
  have hl : lv_has ls 2 [(0, .ref o), (1, .int nv0)] := hl
  have htb : ∀ w ∈ tb_all, w.before ([.ref o, .int nv0]).toArray s = true := fun w h => hts w (List.mem_cons_of_mem _ h)
  have hf_52 := htb _ fl_Model_52
  have hf_76 := htb _ fl_Model_76
  refine lv_aload_n hx hb dd_Model_clear_0 rfl (lv_at hl 0 rfl) ?_
  refine lv_iload_n hx hb dd_Model_clear_1 rfl (lv_at hl 1 rfl) ?_
  refine mm_i (wc := []) (wr := [(o, .inr (7, [.int thr, .int (nI n), .ref ml, .ref mm, .ref mw, .ref mc, .int (nI k), .ref mg, .ref md, .int so, .int fo, .ref mb, .long bb, .long bc, .ref mt, .long be, .ref mr, .int (nI rs), .ref mo, .int (nI rc), .ref mx, .ref mp, .ref nk, .ref na, .ref nv, .ref nf, .ref ns, .ref ne, .ref nw, .ref mf])), (nk, .inl (cI, 40, .inl kd))]) (va_runS (As := [.int nv0]) (rest := [.ref o]) ⟨hx, hb, hml, hown, hts⟩ (cc_Model_isNode l D cI cZ cL cQ _ nv0 ) (mm_cwS 1 hts ml_Model_148 sm_Model_isNode ic_Model cd_Model_isNode rfl rfl (by decide +kernel) ⟨Nat.le_of_ble_eq_true rfl, Nat.le_of_ble_eq_true rfl⟩) (mm_preS hK hP hD [] (by decide) rfl) rfl rfl hl.1 rfl (lv_room (Nat.le_of_ble_eq_true rfl)) dd_Model_clear_2 ⟨Nat.zero_le _, Nat.zero_le _⟩) hP hD hS hA [] [0, 1] rfl rfl (by decide) (by decide) (fun zr1 zu2 H locs p2 hP hD hS => ?_)
  have hP : va_P D kc_all [(o, .inr (7, [.int thr, .int (nI n), .ref ml, .ref mm, .ref mw, .ref mc, .int (nI k), .ref mg, .ref md, .int so, .int fo, .ref mb, .long bb, .long bc, .ref mt, .long be, .ref mr, .int (nI rs), .ref mo, .int (nI rc), .ref mx, .ref mp, .ref nk, .ref na, .ref nv, .ref nf, .ref ns, .ref ne, .ref nw, .ref mf])), (nk, .inl (cI, 40, .inl kd))] H := hP
  have hD : va_D A [(o, .inr (7, [.int thr, .int (nI n), .ref ml, .ref mm, .ref mw, .ref mc, .int (nI k), .ref mg, .ref md, .int so, .int fo, .ref mb, .long bb, .long bc, .ref mt, .long be, .ref mr, .int (nI rs), .ref mo, .int (nI rc), .ref mx, .ref mp, .ref nk, .ref na, .ref nv, .ref nf, .ref ns, .ref ne, .ref nw, .ref mf])), (nk, .inl (cI, 40, .inl kd))] := hD
  have p2 : tl_ok (0 ≤ nv0 ∧ nv0 < 40) zr1 := p2
  refine lv_if_eq (tgt := 12) hx hb dd_Model_clear_5 (by decide) (fun h5 => ?_) (fun h5 => ?_)
  · skip
    refine lv_iconst (v := 1) hx hb dd_Model_clear_12 (by decide) ?_
    refine va_put (D := D) (ci := 7) (v := .int (1 : Int32)) (ty := .int) (C := RR_Model) (T := FF_Model) (N := 30) hx hb htb hi_Model tt_Model tt_Model_ok nn_Model hown hK hP hD hS 0 rfl rfl 0 (by decide) hf_76 (fun _ h9 => h9) rfl (by decide +kernel) (rfl) (rfl) (Nat.le_of_ble_eq_true rfl) dd_Model_clear_13 (fun H locs hP hD hS => ?_)
    have hP : va_P D kc_all [(o, .inr (7, [.int (1 : Int32), .int (nI n), .ref ml, .ref mm, .ref mw, .ref mc, .int (nI k), .ref mg, .ref md, .int so, .int fo, .ref mb, .long bb, .long bc, .ref mt, .long be, .ref mr, .int (nI rs), .ref mo, .int (nI rc), .ref mx, .ref mp, .ref nk, .ref na, .ref nv, .ref nf, .ref ns, .ref ne, .ref nw, .ref mf])), (nk, .inl (cI, 40, .inl kd))] H := hP
    have hD : va_D A [(o, .inr (7, [.int (1 : Int32), .int (nI n), .ref ml, .ref mm, .ref mw, .ref mc, .int (nI k), .ref mg, .ref md, .int so, .int fo, .ref mb, .long bb, .long bc, .ref mt, .long be, .ref mr, .int (nI rs), .ref mo, .int (nI rc), .ref mx, .ref mp, .ref nk, .ref na, .ref nv, .ref nf, .ref ns, .ref ne, .ref nw, .ref mf])), (nk, .inl (cI, 40, .inl kd))] := hD
    refine lv_aload_n hx hb dd_Model_clear_16 rfl (lv_at hl 0 rfl) ?_
    refine va_get (D := D) (ci := 7) (v := .int (1 : Int32)) (C := RR_Model) (T := FF_Model) (N := 30) hx hb htb hi_Model hown hK hP 0 rfl rfl 0 (by decide) hf_76 (fun _ h9 => h9) rfl dd_Model_clear_17 ?_
    refine lv_if_ne (tgt := 30) hx hb dd_Model_clear_20 (by decide) (fun h20 => ?_) (fun h20 => ?_)
    · skip
      have h20 : ¬ (1 = 0) := fun q9 => h20 ((nI_eq (a := 1) (b := 0) (by omega) (by omega)).mpr q9)
      exact W.vret hx hb hr (fun t ht hW => ⟨⟨((1 : Int32), kd), rfl, by first | exact (ci_t (tl_1 p2 h5)).symm | exact (ci_n (tl_0 p2 h5)).symm, by rw [ht]; exact hP, va_K.moved hW.alike hK, hD⟩, hS.F ht⟩) hS.2.2 dd_Model_clear_30
    · skip
      have h20 : 1 = 0 := (nI_eq (a := 1) (b := 0) (by omega) (by omega)).mp h20
      omega
  · skip
    refine lv_iconst (v := 0) hx hb dd_Model_clear_8 (by decide) ?_
    refine lv_goto (tgt := 13) hx hb dd_Model_clear_9 (by decide) ?_
    refine va_put (D := D) (ci := 7) (v := .int (0 : Int32)) (ty := .int) (C := RR_Model) (T := FF_Model) (N := 30) hx hb htb hi_Model tt_Model tt_Model_ok nn_Model hown hK hP hD hS 0 rfl rfl 0 (by decide) hf_76 (fun _ h9 => h9) rfl (by decide +kernel) (rfl) (rfl) (Nat.le_of_ble_eq_true rfl) dd_Model_clear_13 (fun H locs hP hD hS => ?_)
    have hP : va_P D kc_all [(o, .inr (7, [.int (0 : Int32), .int (nI n), .ref ml, .ref mm, .ref mw, .ref mc, .int (nI k), .ref mg, .ref md, .int so, .int fo, .ref mb, .long bb, .long bc, .ref mt, .long be, .ref mr, .int (nI rs), .ref mo, .int (nI rc), .ref mx, .ref mp, .ref nk, .ref na, .ref nv, .ref nf, .ref ns, .ref ne, .ref nw, .ref mf])), (nk, .inl (cI, 40, .inl kd))] H := hP
    have hD : va_D A [(o, .inr (7, [.int (0 : Int32), .int (nI n), .ref ml, .ref mm, .ref mw, .ref mc, .int (nI k), .ref mg, .ref md, .int so, .int fo, .ref mb, .long bb, .long bc, .ref mt, .long be, .ref mr, .int (nI rs), .ref mo, .int (nI rc), .ref mx, .ref mp, .ref nk, .ref na, .ref nv, .ref nf, .ref ns, .ref ne, .ref nw, .ref mf])), (nk, .inl (cI, 40, .inl kd))] := hD
    refine lv_aload_n hx hb dd_Model_clear_16 rfl (lv_at hl 0 rfl) ?_
    refine va_get (D := D) (ci := 7) (v := .int (0 : Int32)) (C := RR_Model) (T := FF_Model) (N := 30) hx hb htb hi_Model hown hK hP 0 rfl rfl 0 (by decide) hf_76 (fun _ h9 => h9) rfl dd_Model_clear_17 ?_
    refine lv_if_ne (tgt := 30) hx hb dd_Model_clear_20 (by decide) (fun h20 => ?_) (fun h20 => ?_)
    · skip
      have h20 : ¬ (0 = 0) := fun q9 => h20 ((nI_eq (a := 0) (b := 0) (by omega) (by omega)).mpr q9)
      omega
    · skip
      have h20 : 0 = 0 := (nI_eq (a := 0) (b := 0) (by omega) (by omega)).mp h20
      have hnn := nd_nat (tl_1 p2 h5)
      refine lv_aload_n hx hb dd_Model_clear_23 rfl (lv_at hl 0 rfl) ?_
      refine va_get (D := D) (ci := 7) (v := .ref nk) (C := RR_Model) (T := FF_Model) (N := 30) hx hb htb hi_Model hown hK hP 0 rfl rfl 22 (by decide) hf_52 (fun _ h9 => h9) rfl dd_Model_clear_24 ?_
      refine lv_iload_n hx hb dd_Model_clear_27 rfl (lv_at hl 1 rfl) ?_
      refine lv_iconst (v := 0) hx hb dd_Model_clear_28 (by decide) ?_
      refine mm_iast hx hb hK hP hD hS 1 0 rfl rfl (nv0.toNatClampNeg) (hnn.1) (hnn.2) (by first | decide | omega) dd_Model_clear_29 (fun H locs hP hD hS => ?_)
      have hP : va_P D kc_all [(o, .inr (7, [.int (0 : Int32), .int (nI n), .ref ml, .ref mm, .ref mw, .ref mc, .int (nI k), .ref mg, .ref md, .int so, .int fo, .ref mb, .long bb, .long bc, .ref mt, .long be, .ref mr, .int (nI rs), .ref mo, .int (nI rc), .ref mx, .ref mp, .ref nk, .ref na, .ref nv, .ref nf, .ref ns, .ref ne, .ref nw, .ref mf])), (nk, .inl (cI, 40, .inl (upd kd nv0.toNatClampNeg (0 : Int32))))] H := hP
      have hD : va_D A [(o, .inr (7, [.int (0 : Int32), .int (nI n), .ref ml, .ref mm, .ref mw, .ref mc, .int (nI k), .ref mg, .ref md, .int so, .int fo, .ref mb, .long bb, .long bc, .ref mt, .long be, .ref mr, .int (nI rs), .ref mo, .int (nI rc), .ref mx, .ref mp, .ref nk, .ref na, .ref nv, .ref nf, .ref ns, .ref ne, .ref nw, .ref mf])), (nk, .inl (cI, 40, .inl (upd kd nv0.toNatClampNeg (0 : Int32))))] := hD
      exact W.vret hx hb hr (fun t ht hW => ⟨⟨((0 : Int32), upd kd nv0.toNatClampNeg (0 : Int32)), rfl, by first | exact (ci_t (tl_1 p2 h5)).symm | exact (ci_n (tl_0 p2 h5)).symm, by rw [ht]; exact hP, va_K.moved hW.alike hK, hD⟩, hS.F ht⟩) hS.2.2 dd_Model_clear_30
abbrev qq_Model_end (D : va_G) (cI cZ cL cQ : ClassId) (o : Nat) (ml : Nat) (mm : Nat) (mw : Nat) (mc : Nat) (mg : Nat) (md : Nat) (mb : Nat) (mt : Nat) (mr : Nat) (mo : Nat) (mx : Nat) (mp : Nat) (nk : Nat) (na : Nat) (nv : Nat) (nf : Nat) (ns : Nat) (ne : Nat) (nw : Nat) (mf : Nat) (thr : Int32) (n : Nat) (k : Nat) (so : Int32) (fo : Int32) (bb : Int64) (bc : Int64) (be : Int64) (rs : Nat) (rc : Nat) (nd : Nat) (x0 : Int32) (x1 : Int32) (x2 : Int32) (x3 : Int32) (x4 : Int32) (x5 : Int32) (x6 : Int32) (kd : Nat → Int32) (en : Nat → Int64) (A : Nat → Prop) : Array Value → State → Outcome → State → Prop := va_Qv (fun u : Unit => True) (fun (u : Unit) t => mm_B D kc_all [(cI, .int), (cZ, .boolean), (cL, .long), (cQ, .array .int)] A [(o, .inr (7, [.int 0, .int (nI n), .ref ml, .ref mm, .ref mw, .ref mc, .int (nI k), .ref mg, .ref md, .int so, .int fo, .ref mb, .long bb, .long bc, .ref mt, .long be, .ref mr, .int (nI rs), .ref mo, .int (nI rc), .ref mx, .ref mp, .ref nk, .ref na, .ref nv, .ref nf, .ref ns, .ref ne, .ref nw, .ref mf])), (nk, .inl (cI, 40, .inl (upd kd nd 2))), (ne, .inl (cL, 280, .inr (.inl (ew_f en nd x0 x1 x2 x3 x4 x5 x6 7))))] t) A
set_option maxHeartbeats 4000000 in
set_option maxRecDepth 100000 in
theorem cc_Model_end (l : Launch) (D : va_G) (cI cZ cL cQ : ClassId) (sz : Nat) (o : Nat) (ml : Nat) (mm : Nat) (mw : Nat) (mc : Nat) (mg : Nat) (md : Nat) (mb : Nat) (mt : Nat) (mr : Nat) (mo : Nat) (mx : Nat) (mp : Nat) (nk : Nat) (na : Nat) (nv : Nat) (nf : Nat) (ns : Nat) (ne : Nat) (nw : Nat) (mf : Nat) (thr : Int32) (n : Nat) (k : Nat) (so : Int32) (fo : Int32) (bb : Int64) (bc : Int64) (be : Int64) (rs : Nat) (rc : Nat) (nd : Nat) (x0 : Int32) (x1 : Int32) (x2 : Int32) (x3 : Int32) (x4 : Int32) (x5 : Int32) (x6 : Int32) (kd : Nat → Int32) (en : Nat → Int64) (hnd : nd < 40) (hok : eg_ok x0 x1 x2 x3 x4 x5 x6 7) : Met l yy_Model_end ww_Model_end ({ frames := 1, cells := 0, slots := 0, locals := 22 } : Room) (mm_Pc D kc_all [(cI, .int), (cZ, .boolean), (cL, .long), (cQ, .array .int)] sz [(o, .inr (7, [.int thr, .int (nI n), .ref ml, .ref mm, .ref mw, .ref mc, .int (nI k), .ref mg, .ref md, .int so, .int fo, .ref mb, .long bb, .long bc, .ref mt, .long be, .ref mr, .int (nI rs), .ref mo, .int (nI rc), .ref mx, .ref mp, .ref nk, .ref na, .ref nv, .ref nf, .ref ns, .ref ne, .ref nw, .ref mf])), (nk, .inl (cI, 40, .inl kd)), (ne, .inl (cL, 280, .inr (.inl en)))] [.ref o, .int (nI nd), .int x0, .int x1, .int x2, .int x3, .int x4, .int x5, .int x6]) (qq_Model_end D cI cZ cL cQ o ml mm mw mc mg md mb mt mr mo mx mp nk na nv nf ns ne nw mf thr n k so fo bb bc be rs rc nd x0 x1 x2 x3 x4 x5 x6 kd en (va_A [(o, .inr (7, [.int thr, .int (nI n), .ref ml, .ref mm, .ref mw, .ref mc, .int (nI k), .ref mg, .ref md, .int so, .int fo, .ref mb, .long bb, .long bc, .ref mt, .long be, .ref mr, .int (nI rs), .ref mo, .int (nI rc), .ref mx, .ref mp, .ref nk, .ref na, .ref nv, .ref nf, .ref ns, .ref ne, .ref nw, .ref mf])), (nk, .inl (cI, 40, .inl kd)), (ne, .inl (cL, 280, .inr (.inl en)))] sz)) 0 0 (va_A [(o, .inr (7, [.int thr, .int (nI n), .ref ml, .ref mm, .ref mw, .ref mc, .int (nI k), .ref mg, .ref md, .int so, .int fo, .ref mb, .long bb, .long bc, .ref mt, .long be, .ref mr, .int (nI rs), .ref mo, .int (nI rc), .ref mx, .ref mp, .ref nk, .ref na, .ref nv, .ref nf, .ref ns, .ref ne, .ref nw, .ref mf])), (nk, .inl (cI, 40, .inl kd)), (ne, .inl (cL, 280, .inr (.inl en)))] sz) := by
  refine Met.ofW (cc := bb_Model_end) (maxL := 12) (ret := none) (by decide) rfl ?_
  intro p e s m args below meth c s₁ B hml hv
  obtain ⟨rfl, hsz, hP, hK, hD0⟩ := hv
  have hx := B.exec
  have hb := B.bytes
  have hr := B.returns
  have hts := atoms_spec (ws := ww_Model_end) B.pre
  have hown : s.vm.findClass RR_Model = some m.cls := findClass_of_methodNamed B.named
  have hlocks := B.notSynchronized
  subst hsz
  have hD := hD0.self (sz := s.heap.size)
  generalize hAe : va_A [(o, .inr (7, [.int thr, .int (nI n), .ref ml, .ref mm, .ref mw, .ref mc, .int (nI k), .ref mg, .ref md, .int so, .int fo, .ref mb, .long bb, .long bc, .ref mt, .long be, .ref mr, .int (nI rs), .ref mo, .int (nI rc), .ref mx, .ref mp, .ref nk, .ref na, .ref nv, .ref nf, .ref ns, .ref ne, .ref nw, .ref mf])), (nk, .inl (cI, 40, .inl kd)), (ne, .inl (cL, 280, .inr (.inl en)))] s.heap.size = A at hD ⊢
  have hA : ∀ q : Nat, s.heap.size ≤ q → A q := fun q h => by rw [← hAe]; exact Or.inr h
  have hS : va_S A s.heap s.heap [] := va_S.rf
  have hP : va_P D kc_all [(o, .inr (7, [.int thr, .int (nI n), .ref ml, .ref mm, .ref mw, .ref mc, .int (nI k), .ref mg, .ref md, .int so, .int fo, .ref mb, .long bb, .long bc, .ref mt, .long be, .ref mr, .int (nI rs), .ref mo, .int (nI rc), .ref mx, .ref mp, .ref nk, .ref na, .ref nv, .ref nf, .ref ns, .ref ne, .ref nw, .ref mf])), (nk, .inl (cI, 40, .inl kd)), (ne, .inl (cL, 280, .inr (.inl en)))] s.heap := hP
  have hl := lv_entry ([.ref o, .int (nI nd), .int x0, .int x1, .int x2, .int x3, .int x4, .int x5, .int x6]) (n := 12) (Nat.le_of_ble_eq_true rfl)
  rw [lg_entry_eq]
  generalize (lg_sl ([.ref o, .int (nI nd), .int x0, .int x1, .int x2, .int x3, .int x4, .int x5, .int x6]) ++ List.replicate (12 - (lg_sl ([.ref o, .int (nI nd), .int x0, .int x1, .int x2, .int x3, .int x4, .int x5, .int x6])).length) Slot.unset).toArray = ls at hl ⊢
  have hl : lv_has ls 12 [(0, .ref o), (1, .int (nI nd)), (2, .int x0), (3, .int x1), (4, .int x2), (5, .int x3), (6, .int x4), (7, .int x5), (8, .int x6)] := hl
  have htb : ∀ w ∈ tb_all, w.before ([.ref o, .int (nI nd), .int x0, .int x1, .int x2, .int x3, .int x4, .int x5, .int x6]).toArray s = true := fun w h => hts w (List.mem_cons_of_mem _ h)
  have hf_52 := htb _ fl_Model_52
  have hf_67 := htb _ fl_Model_67
  have hf_76 := htb _ fl_Model_76
  refine lv_iconst (v := 1) hx hb dd_Model_end_0 (by decide) ?_
  refine lv_istore (lv' := [(9, .int (1 : Int32)), (0, .ref o), (1, .int (nI nd)), (2, .int x0), (3, .int x1), (4, .int x2), (5, .int x3), (6, .int x4), (7, .int x5), (8, .int x6)]) hx hb dd_Model_end_1 hl (by decide) rfl (fun ls hl => ?_)
  refine lv_iconst (v := 0) hx hb dd_Model_end_3 (by decide) ?_
  refine lv_istore (lv' := [(10, .int (0 : Int32)), (9, .int (1 : Int32)), (0, .ref o), (1, .int (nI nd)), (2, .int x0), (3, .int x1), (4, .int x2), (5, .int x3), (6, .int x4), (7, .int x5), (8, .int x6)]) hx hb dd_Model_end_4 hl (by decide) rfl (fun ls hl => ?_)
  have J6 : ∀ (N : Nat) (j : Nat) (g9 : Int32), (7 - j) < N → ∀ (hj : j ≤ 7) (hg : tl_ok (eg_ok x0 x1 x2 x3 x4 x5 x6 j) g9), ∀ (ls : Array Slot) (H : Heap) (locs : List Loc), lv_has ls 12 [(0, .ref o), (1, .int (nI nd)), (2, .int x0), (3, .int x1), (4, .int x2), (5, .int x3), (6, .int x4), (7, .int x5), (8, .int x6), (9, .int g9), (10, .int (nI j))] → va_P D kc_all [(o, .inr (7, [.int thr, .int (nI n), .ref ml, .ref mm, .ref mw, .ref mc, .int (nI k), .ref mg, .ref md, .int so, .int fo, .ref mb, .long bb, .long bc, .ref mt, .long be, .ref mr, .int (nI rs), .ref mo, .int (nI rc), .ref mx, .ref mp, .ref nk, .ref na, .ref nv, .ref nf, .ref ns, .ref ne, .ref nw, .ref mf])), (nk, .inl (cI, 40, .inl kd)), (ne, .inl (cL, 280, .inr (.inl en)))] H → va_D A [(o, .inr (7, [.int thr, .int (nI n), .ref ml, .ref mm, .ref mw, .ref mc, .int (nI k), .ref mg, .ref md, .int so, .int fo, .ref mb, .long bb, .long bc, .ref mt, .long be, .ref mr, .int (nI rs), .ref mo, .int (nI rc), .ref mx, .ref mp, .ref nk, .ref na, .ref nv, .ref nf, .ref ns, .ref ne, .ref nw, .ref mf])), (nk, .inl (cI, 40, .inl kd)), (ne, .inl (cL, 280, .inr (.inl en)))] → va_S A s.heap H locs → W p l e (headSpec ww_Model_end ({ frames := 1, cells := 0, slots := 0, locals := 22 } : Room)).room s m ([.ref o, .int (nI nd), .int x0, .int x1, .int x2, .int x3, .int x4, .int x5, .int x6]).toArray below meth c H locs 0 0 (MQ below (qq_Model_end D cI cZ cL cQ o ml mm mw mc mg md mb mt mr mo mx mp nk na nv nf ns ne nw mf thr n k so fo bb bc be rs rc nd x0 x1 x2 x3 x4 x5 x6 kd en A) ([.ref o, .int (nI nd), .int x0, .int x1, .int x2, .int x3, .int x4, .int x5, .int x6]).toArray s 0 0 A) (F0 m 6 ls []) := by
    intro N
    induction N with
    | zero => intro j g9 hN9; exact absurd hN9 (Nat.not_lt_zero _)
    | succ N IH6 =>
      intro j g9 hN9 hj hg ls H locs hl hP hD hS
      refine lv_iload hx hb dd_Model_end_6 (lv_at hl 10 rfl) ?_
      refine lv_bipush (v := 7) hx hb dd_Model_end_8 (by decide) ?_
      refine lv_icmp_ge (tgt := 109) hx hb dd_Model_end_10 (by decide) (fun h10 => ?_) (fun h10 => ?_)
      · skip
        have h10 : 7 ≤ j := (nI_leI (a := 7) (b := j) (by omega) (by omega)).mp h10
        have hg7 : tl_ok (eg_ok x0 x1 x2 x3 x4 x5 x6 7) g9 := by rw [show 7 = j by omega]; exact hg
        refine lv_aload_n hx hb dd_Model_end_109 rfl (lv_at hl 0 rfl) ?_
        refine lv_iload_n hx hb dd_Model_end_110 rfl (lv_at hl 1 rfl) ?_
        refine mm_i (wc := []) (wr := [(o, .inr (7, [.int thr, .int (nI n), .ref ml, .ref mm, .ref mw, .ref mc, .int (nI k), .ref mg, .ref md, .int so, .int fo, .ref mb, .long bb, .long bc, .ref mt, .long be, .ref mr, .int (nI rs), .ref mo, .int (nI rc), .ref mx, .ref mp, .ref nk, .ref na, .ref nv, .ref nf, .ref ns, .ref ne, .ref nw, .ref mf])), (nk, .inl (cI, 40, .inl kd)), (ne, .inl (cL, 280, .inr (.inl en)))]) (va_runS (As := [.int (nI nd)]) (rest := [.ref o]) ⟨hx, hb, hml, hown, hts⟩ (cc_Model_isNode l D cI cZ cL cQ _ (nI nd) ) (mm_cwS 1 hts ml_Model_148 sm_Model_isNode ic_Model cd_Model_isNode rfl rfl (by decide +kernel) ⟨Nat.le_of_ble_eq_true rfl, Nat.le_of_ble_eq_true rfl⟩) (mm_preS hK hP hD [] (by decide) rfl) rfl rfl hl.1 rfl (lv_room (Nat.le_of_ble_eq_true rfl)) dd_Model_end_111 ⟨Nat.zero_le _, Nat.zero_le _⟩) hP hD hS hA [] [0, 1, 2] rfl rfl (by decide) (by decide) (fun zr1 zu2 H locs p111 hP hD hS => ?_)
        have hP : va_P D kc_all [(o, .inr (7, [.int thr, .int (nI n), .ref ml, .ref mm, .ref mw, .ref mc, .int (nI k), .ref mg, .ref md, .int so, .int fo, .ref mb, .long bb, .long bc, .ref mt, .long be, .ref mr, .int (nI rs), .ref mo, .int (nI rc), .ref mx, .ref mp, .ref nk, .ref na, .ref nv, .ref nf, .ref ns, .ref ne, .ref nw, .ref mf])), (nk, .inl (cI, 40, .inl kd)), (ne, .inl (cL, 280, .inr (.inl en)))] H := hP
        have hD : va_D A [(o, .inr (7, [.int thr, .int (nI n), .ref ml, .ref mm, .ref mw, .ref mc, .int (nI k), .ref mg, .ref md, .int so, .int fo, .ref mb, .long bb, .long bc, .ref mt, .long be, .ref mr, .int (nI rs), .ref mo, .int (nI rc), .ref mx, .ref mp, .ref nk, .ref na, .ref nv, .ref nf, .ref ns, .ref ne, .ref nw, .ref mf])), (nk, .inl (cI, 40, .inl kd)), (ne, .inl (cL, 280, .inr (.inl en)))] := hD
        have p111 : tl_ok (0 ≤ (nI nd) ∧ (nI nd) < 40) zr1 := p111
        refine lv_if_ne (tgt := 121) hx hb dd_Model_end_114 (by decide) (fun h114 => ?_) (fun h114 => ?_)
        · skip
          refine lv_iload hx hb dd_Model_end_121 (lv_at hl 9 rfl) ?_
          refine lv_if_eq (tgt := 130) hx hb dd_Model_end_123 (by decide) (fun h123 => ?_) (fun h123 => ?_)
          · skip
            exact absurd hok (tl_0 hg7 h123)
          · skip
            refine lv_iconst (v := 0) hx hb dd_Model_end_126 (by decide) ?_
            refine lv_goto (tgt := 131) hx hb dd_Model_end_127 (by decide) ?_
            refine va_put (D := D) (ci := 7) (v := .int (0 : Int32)) (ty := .int) (C := RR_Model) (T := FF_Model) (N := 30) hx hb htb hi_Model tt_Model tt_Model_ok nn_Model hown hK hP hD hS 0 rfl rfl 0 (by decide) hf_76 (fun _ h9 => h9) rfl (by decide +kernel) (rfl) (rfl) (Nat.le_of_ble_eq_true rfl) dd_Model_end_131 (fun H locs hP hD hS => ?_)
            have hP : va_P D kc_all [(o, .inr (7, [.int (0 : Int32), .int (nI n), .ref ml, .ref mm, .ref mw, .ref mc, .int (nI k), .ref mg, .ref md, .int so, .int fo, .ref mb, .long bb, .long bc, .ref mt, .long be, .ref mr, .int (nI rs), .ref mo, .int (nI rc), .ref mx, .ref mp, .ref nk, .ref na, .ref nv, .ref nf, .ref ns, .ref ne, .ref nw, .ref mf])), (nk, .inl (cI, 40, .inl kd)), (ne, .inl (cL, 280, .inr (.inl en)))] H := hP
            have hD : va_D A [(o, .inr (7, [.int (0 : Int32), .int (nI n), .ref ml, .ref mm, .ref mw, .ref mc, .int (nI k), .ref mg, .ref md, .int so, .int fo, .ref mb, .long bb, .long bc, .ref mt, .long be, .ref mr, .int (nI rs), .ref mo, .int (nI rc), .ref mx, .ref mp, .ref nk, .ref na, .ref nv, .ref nf, .ref ns, .ref ne, .ref nw, .ref mf])), (nk, .inl (cI, 40, .inl kd)), (ne, .inl (cL, 280, .inr (.inl en)))] := hD
            refine lv_iconst (v := 0) hx hb dd_Model_end_134 (by decide) ?_
            refine lv_istore (lv' := [(10, .int (0 : Int32)), (0, .ref o), (1, .int (nI nd)), (2, .int x0), (3, .int x1), (4, .int x2), (5, .int x3), (6, .int x4), (7, .int x5), (8, .int x6), (9, .int g9)]) hx hb dd_Model_end_135 hl (by decide) rfl (fun ls hl => ?_)
            have J137 : ∀ (N : Nat) (i : Nat) (k1 : Nat → Int32) (e1 : Nat → Int64), (7 - i) < N → ∀ (hi : i ≤ 7) (hk1 : if i = 0 then k1 = kd else k1 = upd kd nd 2) (he1 : e1 = ew_f en nd x0 x1 x2 x3 x4 x5 x6 i), ∀ (ls : Array Slot) (H : Heap) (locs : List Loc), lv_has ls 12 [(0, .ref o), (1, .int (nI nd)), (2, .int x0), (3, .int x1), (4, .int x2), (5, .int x3), (6, .int x4), (7, .int x5), (8, .int x6), (10, .int (nI i))] → va_P D kc_all [(o, .inr (7, [.int 0, .int (nI n), .ref ml, .ref mm, .ref mw, .ref mc, .int (nI k), .ref mg, .ref md, .int so, .int fo, .ref mb, .long bb, .long bc, .ref mt, .long be, .ref mr, .int (nI rs), .ref mo, .int (nI rc), .ref mx, .ref mp, .ref nk, .ref na, .ref nv, .ref nf, .ref ns, .ref ne, .ref nw, .ref mf])), (nk, .inl (cI, 40, .inl k1)), (ne, .inl (cL, 280, .inr (.inl e1)))] H → va_D A [(o, .inr (7, [.int 0, .int (nI n), .ref ml, .ref mm, .ref mw, .ref mc, .int (nI k), .ref mg, .ref md, .int so, .int fo, .ref mb, .long bb, .long bc, .ref mt, .long be, .ref mr, .int (nI rs), .ref mo, .int (nI rc), .ref mx, .ref mp, .ref nk, .ref na, .ref nv, .ref nf, .ref ns, .ref ne, .ref nw, .ref mf])), (nk, .inl (cI, 40, .inl k1)), (ne, .inl (cL, 280, .inr (.inl e1)))] → va_S A s.heap H locs → W p l e (headSpec ww_Model_end ({ frames := 1, cells := 0, slots := 0, locals := 22 } : Room)).room s m ([.ref o, .int (nI nd), .int x0, .int x1, .int x2, .int x3, .int x4, .int x5, .int x6]).toArray below meth c H locs 0 0 (MQ below (qq_Model_end D cI cZ cL cQ o ml mm mw mc mg md mb mt mr mo mx mp nk na nv nf ns ne nw mf thr n k so fo bb bc be rs rc nd x0 x1 x2 x3 x4 x5 x6 kd en A) ([.ref o, .int (nI nd), .int x0, .int x1, .int x2, .int x3, .int x4, .int x5, .int x6]).toArray s 0 0 A) (F0 m 137 ls []) := by
              intro N
              induction N with
              | zero => intro i k1 e1 hN9; exact absurd hN9 (Nat.not_lt_zero _)
              | succ N IH137 =>
                intro i k1 e1 hN9 hi hk1 he1 ls H locs hl hP hD hS
                refine lv_iload hx hb dd_Model_end_137 (lv_at hl 9 rfl) ?_
                refine lv_bipush (v := 7) hx hb dd_Model_end_139 (by decide) ?_
                refine lv_icmp_ge (tgt := 248) hx hb dd_Model_end_141 (by decide) (fun h141 => ?_) (fun h141 => ?_)
                · skip
                  have h141 : 7 ≤ i := (nI_leI (a := 7) (b := i) (by omega) (by omega)).mp h141
                  have ei : i = 7 := by omega
                  rw [ei] at he1 hk1
                  rw [if_neg (by decide)] at hk1
                  rw [hk1, he1] at hP hD
                  have hP : va_P D kc_all [(o, .inr (7, [.int 0, .int (nI n), .ref ml, .ref mm, .ref mw, .ref mc, .int (nI k), .ref mg, .ref md, .int so, .int fo, .ref mb, .long bb, .long bc, .ref mt, .long be, .ref mr, .int (nI rs), .ref mo, .int (nI rc), .ref mx, .ref mp, .ref nk, .ref na, .ref nv, .ref nf, .ref ns, .ref ne, .ref nw, .ref mf])), (nk, .inl (cI, 40, .inl (upd kd nd 2))), (ne, .inl (cL, 280, .inr (.inl (ew_f en nd x0 x1 x2 x3 x4 x5 x6 7))))] H := hP
                  have hD : va_D A [(o, .inr (7, [.int 0, .int (nI n), .ref ml, .ref mm, .ref mw, .ref mc, .int (nI k), .ref mg, .ref md, .int so, .int fo, .ref mb, .long bb, .long bc, .ref mt, .long be, .ref mr, .int (nI rs), .ref mo, .int (nI rc), .ref mx, .ref mp, .ref nk, .ref na, .ref nv, .ref nf, .ref ns, .ref ne, .ref nw, .ref mf])), (nk, .inl (cI, 40, .inl (upd kd nd 2))), (ne, .inl (cL, 280, .inr (.inl (ew_f en nd x0 x1 x2 x3 x4 x5 x6 7))))] := hD
                  exact W.vret hx hb hr (fun t ht hW => ⟨⟨(), rfl, by first | rfl | trivial | assumption | omega, by rw [ht]; exact hP, va_K.moved hW.alike hK, hD⟩, hS.F ht⟩) hS.2.2 dd_Model_end_248
                · skip
                  have h141 : ¬ (7 ≤ i) := fun q9 => h141 ((nI_leI (a := 7) (b := i) (by omega) (by omega)).mpr q9)
                  refine lv_aload_n hx hb dd_Model_end_144 rfl (lv_at hl 0 rfl) ?_
                  refine va_get (D := D) (ci := 7) (v := .int 0) (C := RR_Model) (T := FF_Model) (N := 30) hx hb htb hi_Model hown hK hP 0 rfl rfl 0 (by decide) hf_76 (fun _ h9 => h9) rfl dd_Model_end_145 ?_
                  refine lv_if_ne (tgt := 248) hx hb dd_Model_end_148 (by decide) (fun h148 => ?_) (fun h148 => ?_)
                  · skip
                    have h148 : ¬ (0 = 0) := fun q9 => h148 ((nI_eq (a := 0) (b := 0) (by omega) (by omega)).mpr q9)
                    omega
                  · skip
                    have h148 : 0 = 0 := (nI_eq (a := 0) (b := 0) (by omega) (by omega)).mp h148
                    refine lv_aload_n hx hb dd_Model_end_151 rfl (lv_at hl 0 rfl) ?_
                    refine va_get (D := D) (ci := 7) (v := .ref nk) (C := RR_Model) (T := FF_Model) (N := 30) hx hb htb hi_Model hown hK hP 0 rfl rfl 22 (by decide) hf_52 (fun _ h9 => h9) rfl dd_Model_end_152 ?_
                    refine lv_iload_n hx hb dd_Model_end_155 rfl (lv_at hl 1 rfl) ?_
                    refine lv_iconst (v := 2) hx hb dd_Model_end_156 (by decide) ?_
                    refine mm_iast hx hb hK hP hD hS 1 0 rfl rfl (nd) (rfl) (by omega) (by first | decide | omega) dd_Model_end_157 (fun H locs hP hD hS => ?_)
                    have hP : va_P D kc_all [(o, .inr (7, [.int 0, .int (nI n), .ref ml, .ref mm, .ref mw, .ref mc, .int (nI k), .ref mg, .ref md, .int so, .int fo, .ref mb, .long bb, .long bc, .ref mt, .long be, .ref mr, .int (nI rs), .ref mo, .int (nI rc), .ref mx, .ref mp, .ref nk, .ref na, .ref nv, .ref nf, .ref ns, .ref ne, .ref nw, .ref mf])), (nk, .inl (cI, 40, .inl (upd k1 nd (2 : Int32)))), (ne, .inl (cL, 280, .inr (.inl e1)))] H := hP
                    have hD : va_D A [(o, .inr (7, [.int 0, .int (nI n), .ref ml, .ref mm, .ref mw, .ref mc, .int (nI k), .ref mg, .ref md, .int so, .int fo, .ref mb, .long bb, .long bc, .ref mt, .long be, .ref mr, .int (nI rs), .ref mo, .int (nI rc), .ref mx, .ref mp, .ref nk, .ref na, .ref nv, .ref nf, .ref ns, .ref ne, .ref nw, .ref mf])), (nk, .inl (cI, 40, .inl (upd k1 nd (2 : Int32)))), (ne, .inl (cL, 280, .inr (.inl e1)))] := hD
                    refine lv_aload_n hx hb dd_Model_end_158 rfl (lv_at hl 0 rfl) ?_
                    refine va_get (D := D) (ci := 7) (v := .ref ne) (C := RR_Model) (T := FF_Model) (N := 30) hx hb htb hi_Model hown hK hP 0 rfl rfl 27 (by decide) hf_67 (fun _ h9 => h9) rfl dd_Model_end_159 ?_
                    refine lv_bipush (v := 7) hx hb dd_Model_end_162 (by decide) ?_
                    refine lv_iload_n hx hb dd_Model_end_164 rfl (lv_at hl 1 rfl) ?_
                    refine lv_imul hx hb dd_Model_end_165 ?_
                    refine mm_topi (y := nI (7 * nd)) (pk_mul 7 nd) ?_
                    refine lv_iload hx hb dd_Model_end_166 (lv_at hl 9 rfl) ?_
                    refine lv_iadd hx hb dd_Model_end_168 ?_
                    refine mm_topi (y := nI ((7 * nd) + i)) (nI_add (7 * nd) i) ?_
                    refine lv_iload hx hb dd_Model_end_169 (lv_at hl 9 rfl) ?_
                    refine lv_if_ne (tgt := 179) hx hb dd_Model_end_171 (by decide) (fun h171 => ?_) (fun h171 => ?_)
                    · skip
                      have h171 : ¬ (i = 0) := fun q9 => h171 ((nI_eq (a := i) (b := 0) (by omega) (by omega)).mpr q9)
                      refine lv_iload hx hb dd_Model_end_179 (lv_at hl 9 rfl) ?_
                      refine lv_iconst (v := 1) hx hb dd_Model_end_181 (by decide) ?_
                      refine lv_icmp_ne (tgt := 190) hx hb dd_Model_end_182 (by decide) (fun h182 => ?_) (fun h182 => ?_)
                      · skip
                        have h182 : ¬ (i = 1) := fun q9 => h182 ((nI_eq (a := i) (b := 1) (by omega) (by omega)).mpr q9)
                        refine lv_iload hx hb dd_Model_end_190 (lv_at hl 9 rfl) ?_
                        refine lv_iconst (v := 2) hx hb dd_Model_end_192 (by decide) ?_
                        refine lv_icmp_ne (tgt := 202) hx hb dd_Model_end_193 (by decide) (fun h193 => ?_) (fun h193 => ?_)
                        · skip
                          have h193 : ¬ (i = 2) := fun q9 => h193 ((nI_eq (a := i) (b := 2) (by omega) (by omega)).mpr q9)
                          refine lv_iload hx hb dd_Model_end_202 (lv_at hl 9 rfl) ?_
                          refine lv_iconst (v := 3) hx hb dd_Model_end_204 (by decide) ?_
                          refine lv_icmp_ne (tgt := 214) hx hb dd_Model_end_205 (by decide) (fun h205 => ?_) (fun h205 => ?_)
                          · skip
                            have h205 : ¬ (i = 3) := fun q9 => h205 ((nI_eq (a := i) (b := 3) (by omega) (by omega)).mpr q9)
                            refine lv_iload hx hb dd_Model_end_214 (lv_at hl 9 rfl) ?_
                            refine lv_iconst (v := 4) hx hb dd_Model_end_216 (by decide) ?_
                            refine lv_icmp_ne (tgt := 226) hx hb dd_Model_end_217 (by decide) (fun h217 => ?_) (fun h217 => ?_)
                            · skip
                              have h217 : ¬ (i = 4) := fun q9 => h217 ((nI_eq (a := i) (b := 4) (by omega) (by omega)).mpr q9)
                              refine lv_iload hx hb dd_Model_end_226 (lv_at hl 9 rfl) ?_
                              refine lv_iconst (v := 5) hx hb dd_Model_end_228 (by decide) ?_
                              refine lv_icmp_ne (tgt := 238) hx hb dd_Model_end_229 (by decide) (fun h229 => ?_) (fun h229 => ?_)
                              · skip
                                have h229 : ¬ (i = 5) := fun q9 => h229 ((nI_eq (a := i) (b := 5) (by omega) (by omega)).mpr q9)
                                refine lv_iload hx hb dd_Model_end_238 (lv_at hl 8 rfl) ?_
                                refine lv_i2l (v := x6.toInt64) hx hb dd_Model_end_240 rfl ?_
                                refine mm_topl (y := (p7_f i x0 x1 x2 x3 x4 x5 x6).toInt64) (by first | exact congrArg Int32.toInt64 (p7_0 h171) | exact congrArg Int32.toInt64 (p7_1 h182) | exact congrArg Int32.toInt64 (p7_2 h193) | exact congrArg Int32.toInt64 (p7_3 h205) | exact congrArg Int32.toInt64 (p7_4 h217) | exact congrArg Int32.toInt64 (p7_5 h229) | exact congrArg Int32.toInt64 (p7_6 h171 h182 h193 h205 h217 h229)) ?_
                                refine mm_last hx hb hK hP hD hS 2 2 rfl rfl ((7 * nd) + i) (rfl) (by omega) (by first | decide | omega) dd_Model_end_241 (fun H locs hP hD hS => ?_)
                                have hP : va_P D kc_all [(o, .inr (7, [.int 0, .int (nI n), .ref ml, .ref mm, .ref mw, .ref mc, .int (nI k), .ref mg, .ref md, .int so, .int fo, .ref mb, .long bb, .long bc, .ref mt, .long be, .ref mr, .int (nI rs), .ref mo, .int (nI rc), .ref mx, .ref mp, .ref nk, .ref na, .ref nv, .ref nf, .ref ns, .ref ne, .ref nw, .ref mf])), (nk, .inl (cI, 40, .inl (upd k1 nd (2 : Int32)))), (ne, .inl (cL, 280, .inr (.inl (vp_updL e1 ((7 * nd) + i) ((p7_f i x0 x1 x2 x3 x4 x5 x6).toInt64)))))] H := hP
                                have hD : va_D A [(o, .inr (7, [.int 0, .int (nI n), .ref ml, .ref mm, .ref mw, .ref mc, .int (nI k), .ref mg, .ref md, .int so, .int fo, .ref mb, .long bb, .long bc, .ref mt, .long be, .ref mr, .int (nI rs), .ref mo, .int (nI rc), .ref mx, .ref mp, .ref nk, .ref na, .ref nv, .ref nf, .ref ns, .ref ne, .ref nw, .ref mf])), (nk, .inl (cI, 40, .inl (upd k1 nd (2 : Int32)))), (ne, .inl (cL, 280, .inr (.inl (vp_updL e1 ((7 * nd) + i) ((p7_f i x0 x1 x2 x3 x4 x5 x6).toInt64)))))] := hD
                                refine lv_iinc (k := 9) (v := nI (i + 1)) (lv' := [(10, .int (nI (i + 1))), (0, .ref o), (1, .int (nI nd)), (2, .int x0), (3, .int x1), (4, .int x2), (5, .int x3), (6, .int x4), (7, .int x5), (8, .int x6)]) hx hb dd_Model_end_242 hl rfl (nI_1 _) (by decide) rfl (fun ls hl => ?_)
                                refine lv_goto (tgt := 137) hx hb dd_Model_end_245 (by decide) ?_
                                exact IH137 (i + 1) (upd k1 nd (2 : Int32)) (vp_updL e1 ((7 * nd) + i) ((p7_f i x0 x1 x2 x3 x4 x5 x6).toInt64)) (by omega) (by omega) (by rw [if_neg (by omega)]; exact uk_s (by by_cases z : i = 0; rw [if_pos z] at hk1; exact Or.inl hk1; rw [if_neg z] at hk1; exact Or.inr hk1)) (ew_s he1) ls H locs (lv_sub hl [1, 2, 3, 4, 5, 6, 7, 8, 9, 0] rfl) hP hD hS
                              · skip
                                have h229 : i = 5 := (nI_eq (a := i) (b := 5) (by omega) (by omega)).mp h229
                                refine lv_iload hx hb dd_Model_end_232 (lv_at hl 7 rfl) ?_
                                refine lv_i2l (v := x5.toInt64) hx hb dd_Model_end_234 rfl ?_
                                refine lv_goto (tgt := 241) hx hb dd_Model_end_235 (by decide) ?_
                                refine mm_topl (y := (p7_f i x0 x1 x2 x3 x4 x5 x6).toInt64) (by first | exact congrArg Int32.toInt64 (p7_0 h171) | exact congrArg Int32.toInt64 (p7_1 h182) | exact congrArg Int32.toInt64 (p7_2 h193) | exact congrArg Int32.toInt64 (p7_3 h205) | exact congrArg Int32.toInt64 (p7_4 h217) | exact congrArg Int32.toInt64 (p7_5 h229) | exact congrArg Int32.toInt64 (p7_6 h171 h182 h193 h205 h217 h229)) ?_
                                refine mm_last hx hb hK hP hD hS 2 2 rfl rfl ((7 * nd) + i) (rfl) (by omega) (by first | decide | omega) dd_Model_end_241 (fun H locs hP hD hS => ?_)
                                have hP : va_P D kc_all [(o, .inr (7, [.int 0, .int (nI n), .ref ml, .ref mm, .ref mw, .ref mc, .int (nI k), .ref mg, .ref md, .int so, .int fo, .ref mb, .long bb, .long bc, .ref mt, .long be, .ref mr, .int (nI rs), .ref mo, .int (nI rc), .ref mx, .ref mp, .ref nk, .ref na, .ref nv, .ref nf, .ref ns, .ref ne, .ref nw, .ref mf])), (nk, .inl (cI, 40, .inl (upd k1 nd (2 : Int32)))), (ne, .inl (cL, 280, .inr (.inl (vp_updL e1 ((7 * nd) + i) ((p7_f i x0 x1 x2 x3 x4 x5 x6).toInt64)))))] H := hP
                                have hD : va_D A [(o, .inr (7, [.int 0, .int (nI n), .ref ml, .ref mm, .ref mw, .ref mc, .int (nI k), .ref mg, .ref md, .int so, .int fo, .ref mb, .long bb, .long bc, .ref mt, .long be, .ref mr, .int (nI rs), .ref mo, .int (nI rc), .ref mx, .ref mp, .ref nk, .ref na, .ref nv, .ref nf, .ref ns, .ref ne, .ref nw, .ref mf])), (nk, .inl (cI, 40, .inl (upd k1 nd (2 : Int32)))), (ne, .inl (cL, 280, .inr (.inl (vp_updL e1 ((7 * nd) + i) ((p7_f i x0 x1 x2 x3 x4 x5 x6).toInt64)))))] := hD
                                refine lv_iinc (k := 9) (v := nI (i + 1)) (lv' := [(10, .int (nI (i + 1))), (0, .ref o), (1, .int (nI nd)), (2, .int x0), (3, .int x1), (4, .int x2), (5, .int x3), (6, .int x4), (7, .int x5), (8, .int x6)]) hx hb dd_Model_end_242 hl rfl (nI_1 _) (by decide) rfl (fun ls hl => ?_)
                                refine lv_goto (tgt := 137) hx hb dd_Model_end_245 (by decide) ?_
                                exact IH137 (i + 1) (upd k1 nd (2 : Int32)) (vp_updL e1 ((7 * nd) + i) ((p7_f i x0 x1 x2 x3 x4 x5 x6).toInt64)) (by omega) (by omega) (by rw [if_neg (by omega)]; exact uk_s (by by_cases z : i = 0; rw [if_pos z] at hk1; exact Or.inl hk1; rw [if_neg z] at hk1; exact Or.inr hk1)) (ew_s he1) ls H locs (lv_sub hl [1, 2, 3, 4, 5, 6, 7, 8, 9, 0] rfl) hP hD hS
                            · skip
                              have h217 : i = 4 := (nI_eq (a := i) (b := 4) (by omega) (by omega)).mp h217
                              refine lv_iload hx hb dd_Model_end_220 (lv_at hl 6 rfl) ?_
                              refine lv_i2l (v := x4.toInt64) hx hb dd_Model_end_222 rfl ?_
                              refine lv_goto (tgt := 241) hx hb dd_Model_end_223 (by decide) ?_
                              refine mm_topl (y := (p7_f i x0 x1 x2 x3 x4 x5 x6).toInt64) (by first | exact congrArg Int32.toInt64 (p7_0 h171) | exact congrArg Int32.toInt64 (p7_1 h182) | exact congrArg Int32.toInt64 (p7_2 h193) | exact congrArg Int32.toInt64 (p7_3 h205) | exact congrArg Int32.toInt64 (p7_4 h217) | exact congrArg Int32.toInt64 (p7_5 h229) | exact congrArg Int32.toInt64 (p7_6 h171 h182 h193 h205 h217 h229)) ?_
                              refine mm_last hx hb hK hP hD hS 2 2 rfl rfl ((7 * nd) + i) (rfl) (by omega) (by first | decide | omega) dd_Model_end_241 (fun H locs hP hD hS => ?_)
                              have hP : va_P D kc_all [(o, .inr (7, [.int 0, .int (nI n), .ref ml, .ref mm, .ref mw, .ref mc, .int (nI k), .ref mg, .ref md, .int so, .int fo, .ref mb, .long bb, .long bc, .ref mt, .long be, .ref mr, .int (nI rs), .ref mo, .int (nI rc), .ref mx, .ref mp, .ref nk, .ref na, .ref nv, .ref nf, .ref ns, .ref ne, .ref nw, .ref mf])), (nk, .inl (cI, 40, .inl (upd k1 nd (2 : Int32)))), (ne, .inl (cL, 280, .inr (.inl (vp_updL e1 ((7 * nd) + i) ((p7_f i x0 x1 x2 x3 x4 x5 x6).toInt64)))))] H := hP
                              have hD : va_D A [(o, .inr (7, [.int 0, .int (nI n), .ref ml, .ref mm, .ref mw, .ref mc, .int (nI k), .ref mg, .ref md, .int so, .int fo, .ref mb, .long bb, .long bc, .ref mt, .long be, .ref mr, .int (nI rs), .ref mo, .int (nI rc), .ref mx, .ref mp, .ref nk, .ref na, .ref nv, .ref nf, .ref ns, .ref ne, .ref nw, .ref mf])), (nk, .inl (cI, 40, .inl (upd k1 nd (2 : Int32)))), (ne, .inl (cL, 280, .inr (.inl (vp_updL e1 ((7 * nd) + i) ((p7_f i x0 x1 x2 x3 x4 x5 x6).toInt64)))))] := hD
                              refine lv_iinc (k := 9) (v := nI (i + 1)) (lv' := [(10, .int (nI (i + 1))), (0, .ref o), (1, .int (nI nd)), (2, .int x0), (3, .int x1), (4, .int x2), (5, .int x3), (6, .int x4), (7, .int x5), (8, .int x6)]) hx hb dd_Model_end_242 hl rfl (nI_1 _) (by decide) rfl (fun ls hl => ?_)
                              refine lv_goto (tgt := 137) hx hb dd_Model_end_245 (by decide) ?_
                              exact IH137 (i + 1) (upd k1 nd (2 : Int32)) (vp_updL e1 ((7 * nd) + i) ((p7_f i x0 x1 x2 x3 x4 x5 x6).toInt64)) (by omega) (by omega) (by rw [if_neg (by omega)]; exact uk_s (by by_cases z : i = 0; rw [if_pos z] at hk1; exact Or.inl hk1; rw [if_neg z] at hk1; exact Or.inr hk1)) (ew_s he1) ls H locs (lv_sub hl [1, 2, 3, 4, 5, 6, 7, 8, 9, 0] rfl) hP hD hS
                          · skip
                            have h205 : i = 3 := (nI_eq (a := i) (b := 3) (by omega) (by omega)).mp h205
                            refine lv_iload hx hb dd_Model_end_208 (lv_at hl 5 rfl) ?_
                            refine lv_i2l (v := x3.toInt64) hx hb dd_Model_end_210 rfl ?_
                            refine lv_goto (tgt := 241) hx hb dd_Model_end_211 (by decide) ?_
                            refine mm_topl (y := (p7_f i x0 x1 x2 x3 x4 x5 x6).toInt64) (by first | exact congrArg Int32.toInt64 (p7_0 h171) | exact congrArg Int32.toInt64 (p7_1 h182) | exact congrArg Int32.toInt64 (p7_2 h193) | exact congrArg Int32.toInt64 (p7_3 h205) | exact congrArg Int32.toInt64 (p7_4 h217) | exact congrArg Int32.toInt64 (p7_5 h229) | exact congrArg Int32.toInt64 (p7_6 h171 h182 h193 h205 h217 h229)) ?_
                            refine mm_last hx hb hK hP hD hS 2 2 rfl rfl ((7 * nd) + i) (rfl) (by omega) (by first | decide | omega) dd_Model_end_241 (fun H locs hP hD hS => ?_)
                            have hP : va_P D kc_all [(o, .inr (7, [.int 0, .int (nI n), .ref ml, .ref mm, .ref mw, .ref mc, .int (nI k), .ref mg, .ref md, .int so, .int fo, .ref mb, .long bb, .long bc, .ref mt, .long be, .ref mr, .int (nI rs), .ref mo, .int (nI rc), .ref mx, .ref mp, .ref nk, .ref na, .ref nv, .ref nf, .ref ns, .ref ne, .ref nw, .ref mf])), (nk, .inl (cI, 40, .inl (upd k1 nd (2 : Int32)))), (ne, .inl (cL, 280, .inr (.inl (vp_updL e1 ((7 * nd) + i) ((p7_f i x0 x1 x2 x3 x4 x5 x6).toInt64)))))] H := hP
                            have hD : va_D A [(o, .inr (7, [.int 0, .int (nI n), .ref ml, .ref mm, .ref mw, .ref mc, .int (nI k), .ref mg, .ref md, .int so, .int fo, .ref mb, .long bb, .long bc, .ref mt, .long be, .ref mr, .int (nI rs), .ref mo, .int (nI rc), .ref mx, .ref mp, .ref nk, .ref na, .ref nv, .ref nf, .ref ns, .ref ne, .ref nw, .ref mf])), (nk, .inl (cI, 40, .inl (upd k1 nd (2 : Int32)))), (ne, .inl (cL, 280, .inr (.inl (vp_updL e1 ((7 * nd) + i) ((p7_f i x0 x1 x2 x3 x4 x5 x6).toInt64)))))] := hD
                            refine lv_iinc (k := 9) (v := nI (i + 1)) (lv' := [(10, .int (nI (i + 1))), (0, .ref o), (1, .int (nI nd)), (2, .int x0), (3, .int x1), (4, .int x2), (5, .int x3), (6, .int x4), (7, .int x5), (8, .int x6)]) hx hb dd_Model_end_242 hl rfl (nI_1 _) (by decide) rfl (fun ls hl => ?_)
                            refine lv_goto (tgt := 137) hx hb dd_Model_end_245 (by decide) ?_
                            exact IH137 (i + 1) (upd k1 nd (2 : Int32)) (vp_updL e1 ((7 * nd) + i) ((p7_f i x0 x1 x2 x3 x4 x5 x6).toInt64)) (by omega) (by omega) (by rw [if_neg (by omega)]; exact uk_s (by by_cases z : i = 0; rw [if_pos z] at hk1; exact Or.inl hk1; rw [if_neg z] at hk1; exact Or.inr hk1)) (ew_s he1) ls H locs (lv_sub hl [1, 2, 3, 4, 5, 6, 7, 8, 9, 0] rfl) hP hD hS
                        · skip
                          have h193 : i = 2 := (nI_eq (a := i) (b := 2) (by omega) (by omega)).mp h193
                          refine lv_iload hx hb dd_Model_end_196 (lv_at hl 4 rfl) ?_
                          refine lv_i2l (v := x2.toInt64) hx hb dd_Model_end_198 rfl ?_
                          refine lv_goto (tgt := 241) hx hb dd_Model_end_199 (by decide) ?_
                          refine mm_topl (y := (p7_f i x0 x1 x2 x3 x4 x5 x6).toInt64) (by first | exact congrArg Int32.toInt64 (p7_0 h171) | exact congrArg Int32.toInt64 (p7_1 h182) | exact congrArg Int32.toInt64 (p7_2 h193) | exact congrArg Int32.toInt64 (p7_3 h205) | exact congrArg Int32.toInt64 (p7_4 h217) | exact congrArg Int32.toInt64 (p7_5 h229) | exact congrArg Int32.toInt64 (p7_6 h171 h182 h193 h205 h217 h229)) ?_
                          refine mm_last hx hb hK hP hD hS 2 2 rfl rfl ((7 * nd) + i) (rfl) (by omega) (by first | decide | omega) dd_Model_end_241 (fun H locs hP hD hS => ?_)
                          have hP : va_P D kc_all [(o, .inr (7, [.int 0, .int (nI n), .ref ml, .ref mm, .ref mw, .ref mc, .int (nI k), .ref mg, .ref md, .int so, .int fo, .ref mb, .long bb, .long bc, .ref mt, .long be, .ref mr, .int (nI rs), .ref mo, .int (nI rc), .ref mx, .ref mp, .ref nk, .ref na, .ref nv, .ref nf, .ref ns, .ref ne, .ref nw, .ref mf])), (nk, .inl (cI, 40, .inl (upd k1 nd (2 : Int32)))), (ne, .inl (cL, 280, .inr (.inl (vp_updL e1 ((7 * nd) + i) ((p7_f i x0 x1 x2 x3 x4 x5 x6).toInt64)))))] H := hP
                          have hD : va_D A [(o, .inr (7, [.int 0, .int (nI n), .ref ml, .ref mm, .ref mw, .ref mc, .int (nI k), .ref mg, .ref md, .int so, .int fo, .ref mb, .long bb, .long bc, .ref mt, .long be, .ref mr, .int (nI rs), .ref mo, .int (nI rc), .ref mx, .ref mp, .ref nk, .ref na, .ref nv, .ref nf, .ref ns, .ref ne, .ref nw, .ref mf])), (nk, .inl (cI, 40, .inl (upd k1 nd (2 : Int32)))), (ne, .inl (cL, 280, .inr (.inl (vp_updL e1 ((7 * nd) + i) ((p7_f i x0 x1 x2 x3 x4 x5 x6).toInt64)))))] := hD
                          refine lv_iinc (k := 9) (v := nI (i + 1)) (lv' := [(10, .int (nI (i + 1))), (0, .ref o), (1, .int (nI nd)), (2, .int x0), (3, .int x1), (4, .int x2), (5, .int x3), (6, .int x4), (7, .int x5), (8, .int x6)]) hx hb dd_Model_end_242 hl rfl (nI_1 _) (by decide) rfl (fun ls hl => ?_)
                          refine lv_goto (tgt := 137) hx hb dd_Model_end_245 (by decide) ?_
                          exact IH137 (i + 1) (upd k1 nd (2 : Int32)) (vp_updL e1 ((7 * nd) + i) ((p7_f i x0 x1 x2 x3 x4 x5 x6).toInt64)) (by omega) (by omega) (by rw [if_neg (by omega)]; exact uk_s (by by_cases z : i = 0; rw [if_pos z] at hk1; exact Or.inl hk1; rw [if_neg z] at hk1; exact Or.inr hk1)) (ew_s he1) ls H locs (lv_sub hl [1, 2, 3, 4, 5, 6, 7, 8, 9, 0] rfl) hP hD hS
                      · skip
                        have h182 : i = 1 := (nI_eq (a := i) (b := 1) (by omega) (by omega)).mp h182
                        refine lv_iload_n hx hb dd_Model_end_185 rfl (lv_at hl 3 rfl) ?_
                        refine lv_i2l (v := x1.toInt64) hx hb dd_Model_end_186 rfl ?_
                        refine lv_goto (tgt := 241) hx hb dd_Model_end_187 (by decide) ?_
                        refine mm_topl (y := (p7_f i x0 x1 x2 x3 x4 x5 x6).toInt64) (by first | exact congrArg Int32.toInt64 (p7_0 h171) | exact congrArg Int32.toInt64 (p7_1 h182) | exact congrArg Int32.toInt64 (p7_2 h193) | exact congrArg Int32.toInt64 (p7_3 h205) | exact congrArg Int32.toInt64 (p7_4 h217) | exact congrArg Int32.toInt64 (p7_5 h229) | exact congrArg Int32.toInt64 (p7_6 h171 h182 h193 h205 h217 h229)) ?_
                        refine mm_last hx hb hK hP hD hS 2 2 rfl rfl ((7 * nd) + i) (rfl) (by omega) (by first | decide | omega) dd_Model_end_241 (fun H locs hP hD hS => ?_)
                        have hP : va_P D kc_all [(o, .inr (7, [.int 0, .int (nI n), .ref ml, .ref mm, .ref mw, .ref mc, .int (nI k), .ref mg, .ref md, .int so, .int fo, .ref mb, .long bb, .long bc, .ref mt, .long be, .ref mr, .int (nI rs), .ref mo, .int (nI rc), .ref mx, .ref mp, .ref nk, .ref na, .ref nv, .ref nf, .ref ns, .ref ne, .ref nw, .ref mf])), (nk, .inl (cI, 40, .inl (upd k1 nd (2 : Int32)))), (ne, .inl (cL, 280, .inr (.inl (vp_updL e1 ((7 * nd) + i) ((p7_f i x0 x1 x2 x3 x4 x5 x6).toInt64)))))] H := hP
                        have hD : va_D A [(o, .inr (7, [.int 0, .int (nI n), .ref ml, .ref mm, .ref mw, .ref mc, .int (nI k), .ref mg, .ref md, .int so, .int fo, .ref mb, .long bb, .long bc, .ref mt, .long be, .ref mr, .int (nI rs), .ref mo, .int (nI rc), .ref mx, .ref mp, .ref nk, .ref na, .ref nv, .ref nf, .ref ns, .ref ne, .ref nw, .ref mf])), (nk, .inl (cI, 40, .inl (upd k1 nd (2 : Int32)))), (ne, .inl (cL, 280, .inr (.inl (vp_updL e1 ((7 * nd) + i) ((p7_f i x0 x1 x2 x3 x4 x5 x6).toInt64)))))] := hD
                        refine lv_iinc (k := 9) (v := nI (i + 1)) (lv' := [(10, .int (nI (i + 1))), (0, .ref o), (1, .int (nI nd)), (2, .int x0), (3, .int x1), (4, .int x2), (5, .int x3), (6, .int x4), (7, .int x5), (8, .int x6)]) hx hb dd_Model_end_242 hl rfl (nI_1 _) (by decide) rfl (fun ls hl => ?_)
                        refine lv_goto (tgt := 137) hx hb dd_Model_end_245 (by decide) ?_
                        exact IH137 (i + 1) (upd k1 nd (2 : Int32)) (vp_updL e1 ((7 * nd) + i) ((p7_f i x0 x1 x2 x3 x4 x5 x6).toInt64)) (by omega) (by omega) (by rw [if_neg (by omega)]; exact uk_s (by by_cases z : i = 0; rw [if_pos z] at hk1; exact Or.inl hk1; rw [if_neg z] at hk1; exact Or.inr hk1)) (ew_s he1) ls H locs (lv_sub hl [1, 2, 3, 4, 5, 6, 7, 8, 9, 0] rfl) hP hD hS
                    · skip
                      have h171 : i = 0 := (nI_eq (a := i) (b := 0) (by omega) (by omega)).mp h171
                      refine lv_iload_n hx hb dd_Model_end_174 rfl (lv_at hl 2 rfl) ?_
                      refine lv_i2l (v := x0.toInt64) hx hb dd_Model_end_175 rfl ?_
                      refine lv_goto (tgt := 241) hx hb dd_Model_end_176 (by decide) ?_
                      refine mm_topl (y := (p7_f i x0 x1 x2 x3 x4 x5 x6).toInt64) (by first | exact congrArg Int32.toInt64 (p7_0 h171) | exact congrArg Int32.toInt64 (p7_1 h182) | exact congrArg Int32.toInt64 (p7_2 h193) | exact congrArg Int32.toInt64 (p7_3 h205) | exact congrArg Int32.toInt64 (p7_4 h217) | exact congrArg Int32.toInt64 (p7_5 h229) | exact congrArg Int32.toInt64 (p7_6 h171 h182 h193 h205 h217 h229)) ?_
                      refine mm_last hx hb hK hP hD hS 2 2 rfl rfl ((7 * nd) + i) (rfl) (by omega) (by first | decide | omega) dd_Model_end_241 (fun H locs hP hD hS => ?_)
                      have hP : va_P D kc_all [(o, .inr (7, [.int 0, .int (nI n), .ref ml, .ref mm, .ref mw, .ref mc, .int (nI k), .ref mg, .ref md, .int so, .int fo, .ref mb, .long bb, .long bc, .ref mt, .long be, .ref mr, .int (nI rs), .ref mo, .int (nI rc), .ref mx, .ref mp, .ref nk, .ref na, .ref nv, .ref nf, .ref ns, .ref ne, .ref nw, .ref mf])), (nk, .inl (cI, 40, .inl (upd k1 nd (2 : Int32)))), (ne, .inl (cL, 280, .inr (.inl (vp_updL e1 ((7 * nd) + i) ((p7_f i x0 x1 x2 x3 x4 x5 x6).toInt64)))))] H := hP
                      have hD : va_D A [(o, .inr (7, [.int 0, .int (nI n), .ref ml, .ref mm, .ref mw, .ref mc, .int (nI k), .ref mg, .ref md, .int so, .int fo, .ref mb, .long bb, .long bc, .ref mt, .long be, .ref mr, .int (nI rs), .ref mo, .int (nI rc), .ref mx, .ref mp, .ref nk, .ref na, .ref nv, .ref nf, .ref ns, .ref ne, .ref nw, .ref mf])), (nk, .inl (cI, 40, .inl (upd k1 nd (2 : Int32)))), (ne, .inl (cL, 280, .inr (.inl (vp_updL e1 ((7 * nd) + i) ((p7_f i x0 x1 x2 x3 x4 x5 x6).toInt64)))))] := hD
                      refine lv_iinc (k := 9) (v := nI (i + 1)) (lv' := [(10, .int (nI (i + 1))), (0, .ref o), (1, .int (nI nd)), (2, .int x0), (3, .int x1), (4, .int x2), (5, .int x3), (6, .int x4), (7, .int x5), (8, .int x6)]) hx hb dd_Model_end_242 hl rfl (nI_1 _) (by decide) rfl (fun ls hl => ?_)
                      refine lv_goto (tgt := 137) hx hb dd_Model_end_245 (by decide) ?_
                      exact IH137 (i + 1) (upd k1 nd (2 : Int32)) (vp_updL e1 ((7 * nd) + i) ((p7_f i x0 x1 x2 x3 x4 x5 x6).toInt64)) (by omega) (by omega) (by rw [if_neg (by omega)]; exact uk_s (by by_cases z : i = 0; rw [if_pos z] at hk1; exact Or.inl hk1; rw [if_neg z] at hk1; exact Or.inr hk1)) (ew_s he1) ls H locs (lv_sub hl [1, 2, 3, 4, 5, 6, 7, 8, 9, 0] rfl) hP hD hS
            exact J137 _ 0 kd en (Nat.lt_succ_self _) (by omega) (rfl) (ew_0) ls H locs (lv_sub hl [1, 2, 3, 4, 5, 6, 7, 8, 9, 0] rfl) hP hD hS
        · skip
          exact absurd ⟨nI_le (a := 0) (Nat.zero_le _) (by omega), nI_lt (b := 40) hnd (by decide)⟩ (tl_0 p111 h114)
      · skip
        have h10 : ¬ (7 ≤ j) := fun q9 => h10 ((nI_leI (a := 7) (b := j) (by omega) (by omega)).mpr q9)
        have J80 : ∀ (ls : Array Slot) (H : Heap) (locs : List Loc), lv_has ls 12 [(0, .ref o), (1, .int (nI nd)), (2, .int x0), (3, .int x1), (4, .int x2), (5, .int x3), (6, .int x4), (7, .int x5), (8, .int x6), (9, .int g9), (10, .int (nI j)), (11, .int (p7_f j x0 x1 x2 x3 x4 x5 x6))] → va_P D kc_all [(o, .inr (7, [.int thr, .int (nI n), .ref ml, .ref mm, .ref mw, .ref mc, .int (nI k), .ref mg, .ref md, .int so, .int fo, .ref mb, .long bb, .long bc, .ref mt, .long be, .ref mr, .int (nI rs), .ref mo, .int (nI rc), .ref mx, .ref mp, .ref nk, .ref na, .ref nv, .ref nf, .ref ns, .ref ne, .ref nw, .ref mf])), (nk, .inl (cI, 40, .inl kd)), (ne, .inl (cL, 280, .inr (.inl en)))] H → va_D A [(o, .inr (7, [.int thr, .int (nI n), .ref ml, .ref mm, .ref mw, .ref mc, .int (nI k), .ref mg, .ref md, .int so, .int fo, .ref mb, .long bb, .long bc, .ref mt, .long be, .ref mr, .int (nI rs), .ref mo, .int (nI rc), .ref mx, .ref mp, .ref nk, .ref na, .ref nv, .ref nf, .ref ns, .ref ne, .ref nw, .ref mf])), (nk, .inl (cI, 40, .inl kd)), (ne, .inl (cL, 280, .inr (.inl en)))] → va_S A s.heap H locs → W p l e (headSpec ww_Model_end ({ frames := 1, cells := 0, slots := 0, locals := 22 } : Room)).room s m ([.ref o, .int (nI nd), .int x0, .int x1, .int x2, .int x3, .int x4, .int x5, .int x6]).toArray below meth c H locs 0 0 (MQ below (qq_Model_end D cI cZ cL cQ o ml mm mw mc mg md mb mt mr mo mx mp nk na nv nf ns ne nw mf thr n k so fo bb bc be rs rc nd x0 x1 x2 x3 x4 x5 x6 kd en A) ([.ref o, .int (nI nd), .int x0, .int x1, .int x2, .int x3, .int x4, .int x5, .int x6]).toArray s 0 0 A) (F0 m 80 ls []) := by
          intro   ls H locs hl hP hD hS
          refine lv_iload hx hb dd_Model_end_80 (lv_at hl 9 rfl) ?_
          refine lv_if_eq (tgt := 100) hx hb dd_Model_end_82 (by decide) (fun h82 => ?_) (fun h82 => ?_)
          · skip
            refine lv_iconst (v := 0) hx hb dd_Model_end_100 (by decide) ?_
            refine lv_istore (lv' := [(9, .int (0 : Int32)), (0, .ref o), (1, .int (nI nd)), (2, .int x0), (3, .int x1), (4, .int x2), (5, .int x3), (6, .int x4), (7, .int x5), (8, .int x6), (10, .int (nI j)), (11, .int (p7_f j x0 x1 x2 x3 x4 x5 x6))]) hx hb dd_Model_end_101 hl (by decide) rfl (fun ls hl => ?_)
            refine lv_iinc (k := 10) (v := nI (j + 1)) (lv' := [(10, .int (nI (j + 1))), (9, .int (0 : Int32)), (0, .ref o), (1, .int (nI nd)), (2, .int x0), (3, .int x1), (4, .int x2), (5, .int x3), (6, .int x4), (7, .int x5), (8, .int x6), (11, .int (p7_f j x0 x1 x2 x3 x4 x5 x6))]) hx hb dd_Model_end_103 hl rfl (nI_1 _) (by decide) rfl (fun ls hl => ?_)
            refine lv_goto (tgt := 6) hx hb dd_Model_end_106 (by decide) ?_
            exact IH6 (j + 1) (0 : Int32) (by omega) (by omega) (by first | exact eg_a hg h82 | exact eg_b p90 h93 | exact eg_c hg h82 p90 h93) ls H locs (lv_sub hl [2, 3, 4, 5, 6, 7, 8, 9, 10, 1, 0] rfl) hP hD hS
          · skip
            refine lv_iload hx hb dd_Model_end_85 (lv_at hl 11 rfl) ?_
            refine lv_iconst (v := 0) hx hb dd_Model_end_87 (by decide) ?_
            refine lv_ldc (v := 1000000) hx hb hown (htb _ kn_Model_152) dd_Model_end_88 ?_
            refine mm_i (wc := []) (wr := [(o, .inr (7, [.int thr, .int (nI n), .ref ml, .ref mm, .ref mw, .ref mc, .int (nI k), .ref mg, .ref md, .int so, .int fo, .ref mb, .long bb, .long bc, .ref mt, .long be, .ref mr, .int (nI rs), .ref mo, .int (nI rc), .ref mx, .ref mp, .ref nk, .ref na, .ref nv, .ref nf, .ref ns, .ref ne, .ref nw, .ref mf])), (nk, .inl (cI, 40, .inl kd)), (ne, .inl (cL, 280, .inr (.inl en)))]) (va_runS (As := [.int (p7_f j x0 x1 x2 x3 x4 x5 x6), .int (0 : Int32), .int (1000000 : Int32)]) (rest := []) ⟨hx, hb, hml, hown, hts⟩ (cc_Model_isIn l D cI cZ cL cQ _ (p7_f j x0 x1 x2 x3 x4 x5 x6) (0 : Int32) (1000000 : Int32) ) (mm_cwS 3 hts ml_Model_79 sm_Model_isIn ic_Model cd_Model_isIn rfl rfl (by decide +kernel) ⟨Nat.le_of_ble_eq_true rfl, Nat.le_of_ble_eq_true rfl⟩) (mm_preS hK hP hD [] (by decide) rfl) rfl rfl hl.1 rfl (lv_room (Nat.le_of_ble_eq_true rfl)) dd_Model_end_90 ⟨Nat.zero_le _, Nat.zero_le _⟩) hP hD hS hA [] [0, 1, 2] rfl rfl (by decide) (by decide) (fun zr3 zu4 H locs p90 hP hD hS => ?_)
            have hP : va_P D kc_all [(o, .inr (7, [.int thr, .int (nI n), .ref ml, .ref mm, .ref mw, .ref mc, .int (nI k), .ref mg, .ref md, .int so, .int fo, .ref mb, .long bb, .long bc, .ref mt, .long be, .ref mr, .int (nI rs), .ref mo, .int (nI rc), .ref mx, .ref mp, .ref nk, .ref na, .ref nv, .ref nf, .ref ns, .ref ne, .ref nw, .ref mf])), (nk, .inl (cI, 40, .inl kd)), (ne, .inl (cL, 280, .inr (.inl en)))] H := hP
            have hD : va_D A [(o, .inr (7, [.int thr, .int (nI n), .ref ml, .ref mm, .ref mw, .ref mc, .int (nI k), .ref mg, .ref md, .int so, .int fo, .ref mb, .long bb, .long bc, .ref mt, .long be, .ref mr, .int (nI rs), .ref mo, .int (nI rc), .ref mx, .ref mp, .ref nk, .ref na, .ref nv, .ref nf, .ref ns, .ref ne, .ref nw, .ref mf])), (nk, .inl (cI, 40, .inl kd)), (ne, .inl (cL, 280, .inr (.inl en)))] := hD
            have p90 : tl_ok (in_ok (p7_f j x0 x1 x2 x3 x4 x5 x6) (0 : Int32) (1000000 : Int32)) zr3 := p90
            refine lv_if_eq (tgt := 100) hx hb dd_Model_end_93 (by decide) (fun h93 => ?_) (fun h93 => ?_)
            · skip
              refine lv_iconst (v := 0) hx hb dd_Model_end_100 (by decide) ?_
              refine lv_istore (lv' := [(9, .int (0 : Int32)), (0, .ref o), (1, .int (nI nd)), (2, .int x0), (3, .int x1), (4, .int x2), (5, .int x3), (6, .int x4), (7, .int x5), (8, .int x6), (10, .int (nI j)), (11, .int (p7_f j x0 x1 x2 x3 x4 x5 x6))]) hx hb dd_Model_end_101 hl (by decide) rfl (fun ls hl => ?_)
              refine lv_iinc (k := 10) (v := nI (j + 1)) (lv' := [(10, .int (nI (j + 1))), (9, .int (0 : Int32)), (0, .ref o), (1, .int (nI nd)), (2, .int x0), (3, .int x1), (4, .int x2), (5, .int x3), (6, .int x4), (7, .int x5), (8, .int x6), (11, .int (p7_f j x0 x1 x2 x3 x4 x5 x6))]) hx hb dd_Model_end_103 hl rfl (nI_1 _) (by decide) rfl (fun ls hl => ?_)
              refine lv_goto (tgt := 6) hx hb dd_Model_end_106 (by decide) ?_
              exact IH6 (j + 1) (0 : Int32) (by omega) (by omega) (by first | exact eg_a hg h82 | exact eg_b p90 h93 | exact eg_c hg h82 p90 h93) ls H locs (lv_sub hl [2, 3, 4, 5, 6, 7, 8, 9, 10, 1, 0] rfl) hP hD hS
            · skip
              refine lv_iconst (v := 1) hx hb dd_Model_end_96 (by decide) ?_
              refine lv_goto (tgt := 101) hx hb dd_Model_end_97 (by decide) ?_
              refine lv_istore (lv' := [(9, .int (1 : Int32)), (0, .ref o), (1, .int (nI nd)), (2, .int x0), (3, .int x1), (4, .int x2), (5, .int x3), (6, .int x4), (7, .int x5), (8, .int x6), (10, .int (nI j)), (11, .int (p7_f j x0 x1 x2 x3 x4 x5 x6))]) hx hb dd_Model_end_101 hl (by decide) rfl (fun ls hl => ?_)
              refine lv_iinc (k := 10) (v := nI (j + 1)) (lv' := [(10, .int (nI (j + 1))), (9, .int (1 : Int32)), (0, .ref o), (1, .int (nI nd)), (2, .int x0), (3, .int x1), (4, .int x2), (5, .int x3), (6, .int x4), (7, .int x5), (8, .int x6), (11, .int (p7_f j x0 x1 x2 x3 x4 x5 x6))]) hx hb dd_Model_end_103 hl rfl (nI_1 _) (by decide) rfl (fun ls hl => ?_)
              refine lv_goto (tgt := 6) hx hb dd_Model_end_106 (by decide) ?_
              exact IH6 (j + 1) (1 : Int32) (by omega) (by omega) (by first | exact eg_a hg h82 | exact eg_b p90 h93 | exact eg_c hg h82 p90 h93) ls H locs (lv_sub hl [2, 3, 4, 5, 6, 7, 8, 9, 10, 1, 0] rfl) hP hD hS
        refine lv_iload hx hb dd_Model_end_13 (lv_at hl 10 rfl) ?_
        refine lv_if_ne (tgt := 22) hx hb dd_Model_end_15 (by decide) (fun h15 => ?_) (fun h15 => ?_)
        · skip
          have h15 : ¬ (j = 0) := fun q9 => h15 ((nI_eq (a := j) (b := 0) (by omega) (by omega)).mpr q9)
          refine lv_iload hx hb dd_Model_end_22 (lv_at hl 10 rfl) ?_
          refine lv_iconst (v := 1) hx hb dd_Model_end_24 (by decide) ?_
          refine lv_icmp_ne (tgt := 32) hx hb dd_Model_end_25 (by decide) (fun h25 => ?_) (fun h25 => ?_)
          · skip
            have h25 : ¬ (j = 1) := fun q9 => h25 ((nI_eq (a := j) (b := 1) (by omega) (by omega)).mpr q9)
            refine lv_iload hx hb dd_Model_end_32 (lv_at hl 10 rfl) ?_
            refine lv_iconst (v := 2) hx hb dd_Model_end_34 (by decide) ?_
            refine lv_icmp_ne (tgt := 43) hx hb dd_Model_end_35 (by decide) (fun h35 => ?_) (fun h35 => ?_)
            · skip
              have h35 : ¬ (j = 2) := fun q9 => h35 ((nI_eq (a := j) (b := 2) (by omega) (by omega)).mpr q9)
              refine lv_iload hx hb dd_Model_end_43 (lv_at hl 10 rfl) ?_
              refine lv_iconst (v := 3) hx hb dd_Model_end_45 (by decide) ?_
              refine lv_icmp_ne (tgt := 54) hx hb dd_Model_end_46 (by decide) (fun h46 => ?_) (fun h46 => ?_)
              · skip
                have h46 : ¬ (j = 3) := fun q9 => h46 ((nI_eq (a := j) (b := 3) (by omega) (by omega)).mpr q9)
                refine lv_iload hx hb dd_Model_end_54 (lv_at hl 10 rfl) ?_
                refine lv_iconst (v := 4) hx hb dd_Model_end_56 (by decide) ?_
                refine lv_icmp_ne (tgt := 65) hx hb dd_Model_end_57 (by decide) (fun h57 => ?_) (fun h57 => ?_)
                · skip
                  have h57 : ¬ (j = 4) := fun q9 => h57 ((nI_eq (a := j) (b := 4) (by omega) (by omega)).mpr q9)
                  refine lv_iload hx hb dd_Model_end_65 (lv_at hl 10 rfl) ?_
                  refine lv_iconst (v := 5) hx hb dd_Model_end_67 (by decide) ?_
                  refine lv_icmp_ne (tgt := 76) hx hb dd_Model_end_68 (by decide) (fun h68 => ?_) (fun h68 => ?_)
                  · skip
                    have h68 : ¬ (j = 5) := fun q9 => h68 ((nI_eq (a := j) (b := 5) (by omega) (by omega)).mpr q9)
                    refine lv_iload hx hb dd_Model_end_76 (lv_at hl 8 rfl) ?_
                    refine mm_topi (y := p7_f j x0 x1 x2 x3 x4 x5 x6) (by first | exact p7_0 h15 | exact p7_1 h25 | exact p7_2 h35 | exact p7_3 h46 | exact p7_4 h57 | exact p7_5 h68 | exact p7_6 h15 h25 h35 h46 h57 h68) ?_
                    refine lv_istore (lv' := [(11, .int (p7_f j x0 x1 x2 x3 x4 x5 x6)), (0, .ref o), (1, .int (nI nd)), (2, .int x0), (3, .int x1), (4, .int x2), (5, .int x3), (6, .int x4), (7, .int x5), (8, .int x6), (9, .int g9), (10, .int (nI j))]) hx hb dd_Model_end_78 hl (by decide) rfl (fun ls hl => ?_)
                    exact J80   ls H locs (lv_sub hl [1, 2, 3, 4, 5, 6, 7, 8, 9, 10, 11, 0] rfl) hP hD hS
                  · skip
                    have h68 : j = 5 := (nI_eq (a := j) (b := 5) (by omega) (by omega)).mp h68
                    refine lv_iload hx hb dd_Model_end_71 (lv_at hl 7 rfl) ?_
                    refine lv_goto (tgt := 78) hx hb dd_Model_end_73 (by decide) ?_
                    refine mm_topi (y := p7_f j x0 x1 x2 x3 x4 x5 x6) (by first | exact p7_0 h15 | exact p7_1 h25 | exact p7_2 h35 | exact p7_3 h46 | exact p7_4 h57 | exact p7_5 h68 | exact p7_6 h15 h25 h35 h46 h57 h68) ?_
                    refine lv_istore (lv' := [(11, .int (p7_f j x0 x1 x2 x3 x4 x5 x6)), (0, .ref o), (1, .int (nI nd)), (2, .int x0), (3, .int x1), (4, .int x2), (5, .int x3), (6, .int x4), (7, .int x5), (8, .int x6), (9, .int g9), (10, .int (nI j))]) hx hb dd_Model_end_78 hl (by decide) rfl (fun ls hl => ?_)
                    exact J80   ls H locs (lv_sub hl [1, 2, 3, 4, 5, 6, 7, 8, 9, 10, 11, 0] rfl) hP hD hS
                · skip
                  have h57 : j = 4 := (nI_eq (a := j) (b := 4) (by omega) (by omega)).mp h57
                  refine lv_iload hx hb dd_Model_end_60 (lv_at hl 6 rfl) ?_
                  refine lv_goto (tgt := 78) hx hb dd_Model_end_62 (by decide) ?_
                  refine mm_topi (y := p7_f j x0 x1 x2 x3 x4 x5 x6) (by first | exact p7_0 h15 | exact p7_1 h25 | exact p7_2 h35 | exact p7_3 h46 | exact p7_4 h57 | exact p7_5 h68 | exact p7_6 h15 h25 h35 h46 h57 h68) ?_
                  refine lv_istore (lv' := [(11, .int (p7_f j x0 x1 x2 x3 x4 x5 x6)), (0, .ref o), (1, .int (nI nd)), (2, .int x0), (3, .int x1), (4, .int x2), (5, .int x3), (6, .int x4), (7, .int x5), (8, .int x6), (9, .int g9), (10, .int (nI j))]) hx hb dd_Model_end_78 hl (by decide) rfl (fun ls hl => ?_)
                  exact J80   ls H locs (lv_sub hl [1, 2, 3, 4, 5, 6, 7, 8, 9, 10, 11, 0] rfl) hP hD hS
              · skip
                have h46 : j = 3 := (nI_eq (a := j) (b := 3) (by omega) (by omega)).mp h46
                refine lv_iload hx hb dd_Model_end_49 (lv_at hl 5 rfl) ?_
                refine lv_goto (tgt := 78) hx hb dd_Model_end_51 (by decide) ?_
                refine mm_topi (y := p7_f j x0 x1 x2 x3 x4 x5 x6) (by first | exact p7_0 h15 | exact p7_1 h25 | exact p7_2 h35 | exact p7_3 h46 | exact p7_4 h57 | exact p7_5 h68 | exact p7_6 h15 h25 h35 h46 h57 h68) ?_
                refine lv_istore (lv' := [(11, .int (p7_f j x0 x1 x2 x3 x4 x5 x6)), (0, .ref o), (1, .int (nI nd)), (2, .int x0), (3, .int x1), (4, .int x2), (5, .int x3), (6, .int x4), (7, .int x5), (8, .int x6), (9, .int g9), (10, .int (nI j))]) hx hb dd_Model_end_78 hl (by decide) rfl (fun ls hl => ?_)
                exact J80   ls H locs (lv_sub hl [1, 2, 3, 4, 5, 6, 7, 8, 9, 10, 11, 0] rfl) hP hD hS
            · skip
              have h35 : j = 2 := (nI_eq (a := j) (b := 2) (by omega) (by omega)).mp h35
              refine lv_iload hx hb dd_Model_end_38 (lv_at hl 4 rfl) ?_
              refine lv_goto (tgt := 78) hx hb dd_Model_end_40 (by decide) ?_
              refine mm_topi (y := p7_f j x0 x1 x2 x3 x4 x5 x6) (by first | exact p7_0 h15 | exact p7_1 h25 | exact p7_2 h35 | exact p7_3 h46 | exact p7_4 h57 | exact p7_5 h68 | exact p7_6 h15 h25 h35 h46 h57 h68) ?_
              refine lv_istore (lv' := [(11, .int (p7_f j x0 x1 x2 x3 x4 x5 x6)), (0, .ref o), (1, .int (nI nd)), (2, .int x0), (3, .int x1), (4, .int x2), (5, .int x3), (6, .int x4), (7, .int x5), (8, .int x6), (9, .int g9), (10, .int (nI j))]) hx hb dd_Model_end_78 hl (by decide) rfl (fun ls hl => ?_)
              exact J80   ls H locs (lv_sub hl [1, 2, 3, 4, 5, 6, 7, 8, 9, 10, 11, 0] rfl) hP hD hS
          · skip
            have h25 : j = 1 := (nI_eq (a := j) (b := 1) (by omega) (by omega)).mp h25
            refine lv_iload_n hx hb dd_Model_end_28 rfl (lv_at hl 3 rfl) ?_
            refine lv_goto (tgt := 78) hx hb dd_Model_end_29 (by decide) ?_
            refine mm_topi (y := p7_f j x0 x1 x2 x3 x4 x5 x6) (by first | exact p7_0 h15 | exact p7_1 h25 | exact p7_2 h35 | exact p7_3 h46 | exact p7_4 h57 | exact p7_5 h68 | exact p7_6 h15 h25 h35 h46 h57 h68) ?_
            refine lv_istore (lv' := [(11, .int (p7_f j x0 x1 x2 x3 x4 x5 x6)), (0, .ref o), (1, .int (nI nd)), (2, .int x0), (3, .int x1), (4, .int x2), (5, .int x3), (6, .int x4), (7, .int x5), (8, .int x6), (9, .int g9), (10, .int (nI j))]) hx hb dd_Model_end_78 hl (by decide) rfl (fun ls hl => ?_)
            exact J80   ls H locs (lv_sub hl [1, 2, 3, 4, 5, 6, 7, 8, 9, 10, 11, 0] rfl) hP hD hS
        · skip
          have h15 : j = 0 := (nI_eq (a := j) (b := 0) (by omega) (by omega)).mp h15
          refine lv_iload_n hx hb dd_Model_end_18 rfl (lv_at hl 2 rfl) ?_
          refine lv_goto (tgt := 78) hx hb dd_Model_end_19 (by decide) ?_
          refine mm_topi (y := p7_f j x0 x1 x2 x3 x4 x5 x6) (by first | exact p7_0 h15 | exact p7_1 h25 | exact p7_2 h35 | exact p7_3 h46 | exact p7_4 h57 | exact p7_5 h68 | exact p7_6 h15 h25 h35 h46 h57 h68) ?_
          refine lv_istore (lv' := [(11, .int (p7_f j x0 x1 x2 x3 x4 x5 x6)), (0, .ref o), (1, .int (nI nd)), (2, .int x0), (3, .int x1), (4, .int x2), (5, .int x3), (6, .int x4), (7, .int x5), (8, .int x6), (9, .int g9), (10, .int (nI j))]) hx hb dd_Model_end_78 hl (by decide) rfl (fun ls hl => ?_)
          exact J80   ls H locs (lv_sub hl [1, 2, 3, 4, 5, 6, 7, 8, 9, 10, 11, 0] rfl) hP hD hS
  exact J6 _ 0 (1 : Int32) (Nat.lt_succ_self _) (by omega) (eg_0) ls _ _ (lv_sub hl [2, 3, 4, 5, 6, 7, 8, 9, 10, 1, 0] rfl) hP hD hS
abbrev qq_Model_endN (D : va_G) (cI cZ cL cQ : ClassId) (o : Nat) (ml : Nat) (mm : Nat) (mw : Nat) (mc : Nat) (mg : Nat) (md : Nat) (mb : Nat) (mt : Nat) (mr : Nat) (mo : Nat) (mx : Nat) (mp : Nat) (nk : Nat) (na : Nat) (nv : Nat) (nf : Nat) (ns : Nat) (ne : Nat) (nw : Nat) (mf : Nat) (thr : Int32) (n : Nat) (k : Nat) (so : Int32) (fo : Int32) (bb : Int64) (bc : Int64) (be : Int64) (rs : Nat) (rc : Nat) (nv0 : Int32) (x0 : Int32) (x1 : Int32) (x2 : Int32) (x3 : Int32) (x4 : Int32) (x5 : Int32) (x6 : Int32) (A : Nat → Prop) : Array Value → State → Outcome → State → Prop := va_Qv (fun u : Int32 => (¬ nd_ok nv0 → u = 1) ∧ (nd_ok nv0 → u = 2)) (fun (u : Int32) t => mm_B D kc_all [(cI, .int), (cZ, .boolean), (cL, .long), (cQ, .array .int)] A [(o, .inr (7, [.int u, .int (nI n), .ref ml, .ref mm, .ref mw, .ref mc, .int (nI k), .ref mg, .ref md, .int so, .int fo, .ref mb, .long bb, .long bc, .ref mt, .long be, .ref mr, .int (nI rs), .ref mo, .int (nI rc), .ref mx, .ref mp, .ref nk, .ref na, .ref nv, .ref nf, .ref ns, .ref ne, .ref nw, .ref mf]))] t) A
set_option maxHeartbeats 4000000 in
set_option maxRecDepth 100000 in
theorem cc_Model_endN (l : Launch) (D : va_G) (cI cZ cL cQ : ClassId) (sz : Nat) (o : Nat) (ml : Nat) (mm : Nat) (mw : Nat) (mc : Nat) (mg : Nat) (md : Nat) (mb : Nat) (mt : Nat) (mr : Nat) (mo : Nat) (mx : Nat) (mp : Nat) (nk : Nat) (na : Nat) (nv : Nat) (nf : Nat) (ns : Nat) (ne : Nat) (nw : Nat) (mf : Nat) (thr : Int32) (n : Nat) (k : Nat) (so : Int32) (fo : Int32) (bb : Int64) (bc : Int64) (be : Int64) (rs : Nat) (rc : Nat) (nv0 : Int32) (x0 : Int32) (x1 : Int32) (x2 : Int32) (x3 : Int32) (x4 : Int32) (x5 : Int32) (x6 : Int32) (hno : ¬ (nd_ok nv0 ∧ eg_ok x0 x1 x2 x3 x4 x5 x6 7)) : Met l yy_Model_end ww_Model_end ({ frames := 1, cells := 0, slots := 0, locals := 22 } : Room) (mm_Pc D kc_all [(cI, .int), (cZ, .boolean), (cL, .long), (cQ, .array .int)] sz [(o, .inr (7, [.int thr, .int (nI n), .ref ml, .ref mm, .ref mw, .ref mc, .int (nI k), .ref mg, .ref md, .int so, .int fo, .ref mb, .long bb, .long bc, .ref mt, .long be, .ref mr, .int (nI rs), .ref mo, .int (nI rc), .ref mx, .ref mp, .ref nk, .ref na, .ref nv, .ref nf, .ref ns, .ref ne, .ref nw, .ref mf]))] [.ref o, .int nv0, .int x0, .int x1, .int x2, .int x3, .int x4, .int x5, .int x6]) (qq_Model_endN D cI cZ cL cQ o ml mm mw mc mg md mb mt mr mo mx mp nk na nv nf ns ne nw mf thr n k so fo bb bc be rs rc nv0 x0 x1 x2 x3 x4 x5 x6 (va_A [(o, .inr (7, [.int thr, .int (nI n), .ref ml, .ref mm, .ref mw, .ref mc, .int (nI k), .ref mg, .ref md, .int so, .int fo, .ref mb, .long bb, .long bc, .ref mt, .long be, .ref mr, .int (nI rs), .ref mo, .int (nI rc), .ref mx, .ref mp, .ref nk, .ref na, .ref nv, .ref nf, .ref ns, .ref ne, .ref nw, .ref mf]))] sz)) 0 0 (va_A [(o, .inr (7, [.int thr, .int (nI n), .ref ml, .ref mm, .ref mw, .ref mc, .int (nI k), .ref mg, .ref md, .int so, .int fo, .ref mb, .long bb, .long bc, .ref mt, .long be, .ref mr, .int (nI rs), .ref mo, .int (nI rc), .ref mx, .ref mp, .ref nk, .ref na, .ref nv, .ref nf, .ref ns, .ref ne, .ref nw, .ref mf]))] sz) := by
  refine Met.ofW (cc := bb_Model_end) (maxL := 12) (ret := none) (by decide) rfl ?_
  intro p e s m args below meth c s₁ B hml hv
  obtain ⟨rfl, hsz, hP, hK, hD0⟩ := hv
  have hx := B.exec
  have hb := B.bytes
  have hr := B.returns
  have hts := atoms_spec (ws := ww_Model_end) B.pre
  have hown : s.vm.findClass RR_Model = some m.cls := findClass_of_methodNamed B.named
  have hlocks := B.notSynchronized
  subst hsz
  have hD := hD0.self (sz := s.heap.size)
  generalize hAe : va_A [(o, .inr (7, [.int thr, .int (nI n), .ref ml, .ref mm, .ref mw, .ref mc, .int (nI k), .ref mg, .ref md, .int so, .int fo, .ref mb, .long bb, .long bc, .ref mt, .long be, .ref mr, .int (nI rs), .ref mo, .int (nI rc), .ref mx, .ref mp, .ref nk, .ref na, .ref nv, .ref nf, .ref ns, .ref ne, .ref nw, .ref mf]))] s.heap.size = A at hD ⊢
  have hA : ∀ q : Nat, s.heap.size ≤ q → A q := fun q h => by rw [← hAe]; exact Or.inr h
  have hS : va_S A s.heap s.heap [] := va_S.rf
  have hP : va_P D kc_all [(o, .inr (7, [.int thr, .int (nI n), .ref ml, .ref mm, .ref mw, .ref mc, .int (nI k), .ref mg, .ref md, .int so, .int fo, .ref mb, .long bb, .long bc, .ref mt, .long be, .ref mr, .int (nI rs), .ref mo, .int (nI rc), .ref mx, .ref mp, .ref nk, .ref na, .ref nv, .ref nf, .ref ns, .ref ne, .ref nw, .ref mf]))] s.heap := hP
  have hl := lv_entry ([.ref o, .int nv0, .int x0, .int x1, .int x2, .int x3, .int x4, .int x5, .int x6]) (n := 12) (Nat.le_of_ble_eq_true rfl)
  rw [lg_entry_eq]
  generalize (lg_sl ([.ref o, .int nv0, .int x0, .int x1, .int x2, .int x3, .int x4, .int x5, .int x6]) ++ List.replicate (12 - (lg_sl ([.ref o, .int nv0, .int x0, .int x1, .int x2, .int x3, .int x4, .int x5, .int x6])).length) Slot.unset).toArray = ls at hl ⊢
  have hl : lv_has ls 12 [(0, .ref o), (1, .int nv0), (2, .int x0), (3, .int x1), (4, .int x2), (5, .int x3), (6, .int x4), (7, .int x5), (8, .int x6)] := hl
  have htb : ∀ w ∈ tb_all, w.before ([.ref o, .int nv0, .int x0, .int x1, .int x2, .int x3, .int x4, .int x5, .int x6]).toArray s = true := fun w h => hts w (List.mem_cons_of_mem _ h)
  have hf_52 := htb _ fl_Model_52
  have hf_67 := htb _ fl_Model_67
  have hf_76 := htb _ fl_Model_76
  refine lv_iconst (v := 1) hx hb dd_Model_end_0 (by decide) ?_
  refine lv_istore (lv' := [(9, .int (1 : Int32)), (0, .ref o), (1, .int nv0), (2, .int x0), (3, .int x1), (4, .int x2), (5, .int x3), (6, .int x4), (7, .int x5), (8, .int x6)]) hx hb dd_Model_end_1 hl (by decide) rfl (fun ls hl => ?_)
  refine lv_iconst (v := 0) hx hb dd_Model_end_3 (by decide) ?_
  refine lv_istore (lv' := [(10, .int (0 : Int32)), (9, .int (1 : Int32)), (0, .ref o), (1, .int nv0), (2, .int x0), (3, .int x1), (4, .int x2), (5, .int x3), (6, .int x4), (7, .int x5), (8, .int x6)]) hx hb dd_Model_end_4 hl (by decide) rfl (fun ls hl => ?_)
  have J6 : ∀ (N : Nat) (j : Nat) (g9 : Int32), (7 - j) < N → ∀ (hj : j ≤ 7) (hg : tl_ok (eg_ok x0 x1 x2 x3 x4 x5 x6 j) g9), ∀ (ls : Array Slot) (H : Heap) (locs : List Loc), lv_has ls 12 [(0, .ref o), (1, .int nv0), (2, .int x0), (3, .int x1), (4, .int x2), (5, .int x3), (6, .int x4), (7, .int x5), (8, .int x6), (9, .int g9), (10, .int (nI j))] → va_P D kc_all [(o, .inr (7, [.int thr, .int (nI n), .ref ml, .ref mm, .ref mw, .ref mc, .int (nI k), .ref mg, .ref md, .int so, .int fo, .ref mb, .long bb, .long bc, .ref mt, .long be, .ref mr, .int (nI rs), .ref mo, .int (nI rc), .ref mx, .ref mp, .ref nk, .ref na, .ref nv, .ref nf, .ref ns, .ref ne, .ref nw, .ref mf]))] H → va_D A [(o, .inr (7, [.int thr, .int (nI n), .ref ml, .ref mm, .ref mw, .ref mc, .int (nI k), .ref mg, .ref md, .int so, .int fo, .ref mb, .long bb, .long bc, .ref mt, .long be, .ref mr, .int (nI rs), .ref mo, .int (nI rc), .ref mx, .ref mp, .ref nk, .ref na, .ref nv, .ref nf, .ref ns, .ref ne, .ref nw, .ref mf]))] → va_S A s.heap H locs → W p l e (headSpec ww_Model_end ({ frames := 1, cells := 0, slots := 0, locals := 22 } : Room)).room s m ([.ref o, .int nv0, .int x0, .int x1, .int x2, .int x3, .int x4, .int x5, .int x6]).toArray below meth c H locs 0 0 (MQ below (qq_Model_endN D cI cZ cL cQ o ml mm mw mc mg md mb mt mr mo mx mp nk na nv nf ns ne nw mf thr n k so fo bb bc be rs rc nv0 x0 x1 x2 x3 x4 x5 x6 A) ([.ref o, .int nv0, .int x0, .int x1, .int x2, .int x3, .int x4, .int x5, .int x6]).toArray s 0 0 A) (F0 m 6 ls []) := by
    intro N
    induction N with
    | zero => intro j g9 hN9; exact absurd hN9 (Nat.not_lt_zero _)
    | succ N IH6 =>
      intro j g9 hN9 hj hg ls H locs hl hP hD hS
      refine lv_iload hx hb dd_Model_end_6 (lv_at hl 10 rfl) ?_
      refine lv_bipush (v := 7) hx hb dd_Model_end_8 (by decide) ?_
      refine lv_icmp_ge (tgt := 109) hx hb dd_Model_end_10 (by decide) (fun h10 => ?_) (fun h10 => ?_)
      · skip
        have h10 : 7 ≤ j := (nI_leI (a := 7) (b := j) (by omega) (by omega)).mp h10
        have hg7 : tl_ok (eg_ok x0 x1 x2 x3 x4 x5 x6 7) g9 := by rw [show 7 = j by omega]; exact hg
        refine lv_aload_n hx hb dd_Model_end_109 rfl (lv_at hl 0 rfl) ?_
        refine lv_iload_n hx hb dd_Model_end_110 rfl (lv_at hl 1 rfl) ?_
        refine mm_i (wc := []) (wr := [(o, .inr (7, [.int thr, .int (nI n), .ref ml, .ref mm, .ref mw, .ref mc, .int (nI k), .ref mg, .ref md, .int so, .int fo, .ref mb, .long bb, .long bc, .ref mt, .long be, .ref mr, .int (nI rs), .ref mo, .int (nI rc), .ref mx, .ref mp, .ref nk, .ref na, .ref nv, .ref nf, .ref ns, .ref ne, .ref nw, .ref mf]))]) (va_runS (As := [.int nv0]) (rest := [.ref o]) ⟨hx, hb, hml, hown, hts⟩ (cc_Model_isNode l D cI cZ cL cQ _ nv0 ) (mm_cwS 1 hts ml_Model_148 sm_Model_isNode ic_Model cd_Model_isNode rfl rfl (by decide +kernel) ⟨Nat.le_of_ble_eq_true rfl, Nat.le_of_ble_eq_true rfl⟩) (mm_preS hK hP hD [] (by decide) rfl) rfl rfl hl.1 rfl (lv_room (Nat.le_of_ble_eq_true rfl)) dd_Model_end_111 ⟨Nat.zero_le _, Nat.zero_le _⟩) hP hD hS hA [] [0] rfl rfl (by decide) (by decide) (fun zr1 zu2 H locs p111 hP hD hS => ?_)
        have hP : va_P D kc_all [(o, .inr (7, [.int thr, .int (nI n), .ref ml, .ref mm, .ref mw, .ref mc, .int (nI k), .ref mg, .ref md, .int so, .int fo, .ref mb, .long bb, .long bc, .ref mt, .long be, .ref mr, .int (nI rs), .ref mo, .int (nI rc), .ref mx, .ref mp, .ref nk, .ref na, .ref nv, .ref nf, .ref ns, .ref ne, .ref nw, .ref mf]))] H := hP
        have hD : va_D A [(o, .inr (7, [.int thr, .int (nI n), .ref ml, .ref mm, .ref mw, .ref mc, .int (nI k), .ref mg, .ref md, .int so, .int fo, .ref mb, .long bb, .long bc, .ref mt, .long be, .ref mr, .int (nI rs), .ref mo, .int (nI rc), .ref mx, .ref mp, .ref nk, .ref na, .ref nv, .ref nf, .ref ns, .ref ne, .ref nw, .ref mf]))] := hD
        have p111 : tl_ok (0 ≤ nv0 ∧ nv0 < 40) zr1 := p111
        refine lv_if_ne (tgt := 121) hx hb dd_Model_end_114 (by decide) (fun h114 => ?_) (fun h114 => ?_)
        · skip
          refine lv_iload hx hb dd_Model_end_121 (lv_at hl 9 rfl) ?_
          refine lv_if_eq (tgt := 130) hx hb dd_Model_end_123 (by decide) (fun h123 => ?_) (fun h123 => ?_)
          · skip
            refine lv_iconst (v := 2) hx hb dd_Model_end_130 (by decide) ?_
            refine va_put (D := D) (ci := 7) (v := .int (2 : Int32)) (ty := .int) (C := RR_Model) (T := FF_Model) (N := 30) hx hb htb hi_Model tt_Model tt_Model_ok nn_Model hown hK hP hD hS 0 rfl rfl 0 (by decide) hf_76 (fun _ h9 => h9) rfl (by decide +kernel) (rfl) (rfl) (Nat.le_of_ble_eq_true rfl) dd_Model_end_131 (fun H locs hP hD hS => ?_)
            have hP : va_P D kc_all [(o, .inr (7, [.int (2 : Int32), .int (nI n), .ref ml, .ref mm, .ref mw, .ref mc, .int (nI k), .ref mg, .ref md, .int so, .int fo, .ref mb, .long bb, .long bc, .ref mt, .long be, .ref mr, .int (nI rs), .ref mo, .int (nI rc), .ref mx, .ref mp, .ref nk, .ref na, .ref nv, .ref nf, .ref ns, .ref ne, .ref nw, .ref mf]))] H := hP
            have hD : va_D A [(o, .inr (7, [.int (2 : Int32), .int (nI n), .ref ml, .ref mm, .ref mw, .ref mc, .int (nI k), .ref mg, .ref md, .int so, .int fo, .ref mb, .long bb, .long bc, .ref mt, .long be, .ref mr, .int (nI rs), .ref mo, .int (nI rc), .ref mx, .ref mp, .ref nk, .ref na, .ref nv, .ref nf, .ref ns, .ref ne, .ref nw, .ref mf]))] := hD
            refine lv_iconst (v := 0) hx hb dd_Model_end_134 (by decide) ?_
            refine lv_istore (lv' := [(10, .int (0 : Int32)), (0, .ref o), (1, .int nv0), (2, .int x0), (3, .int x1), (4, .int x2), (5, .int x3), (6, .int x4), (7, .int x5), (8, .int x6), (9, .int g9)]) hx hb dd_Model_end_135 hl (by decide) rfl (fun ls hl => ?_)
            refine lv_iload hx hb dd_Model_end_137 (lv_at hl 0 rfl) ?_
            refine lv_bipush (v := 7) hx hb dd_Model_end_139 (by decide) ?_
            refine lv_icmp_ge (tgt := 248) hx hb dd_Model_end_141 (by decide) (fun h141 => ?_) (fun h141 => ?_)
            · skip
              have h141 : 7 ≤ 0 := (nI_leI (a := 7) (b := 0) (by omega) (by omega)).mp h141
              omega
            · skip
              have h141 : ¬ (7 ≤ 0) := fun q9 => h141 ((nI_leI (a := 7) (b := 0) (by omega) (by omega)).mpr q9)
              refine lv_aload_n hx hb dd_Model_end_144 rfl (lv_at hl 1 rfl) ?_
              refine va_get (D := D) (ci := 7) (v := .int (2 : Int32)) (C := RR_Model) (T := FF_Model) (N := 30) hx hb htb hi_Model hown hK hP 0 rfl rfl 0 (by decide) hf_76 (fun _ h9 => h9) rfl dd_Model_end_145 ?_
              refine lv_if_ne (tgt := 248) hx hb dd_Model_end_148 (by decide) (fun h148 => ?_) (fun h148 => ?_)
              · skip
                have h148 : ¬ (2 = 0) := fun q9 => h148 ((nI_eq (a := 2) (b := 0) (by omega) (by omega)).mpr q9)
                exact W.vret hx hb hr (fun t ht hW => ⟨⟨(2 : Int32), rfl, by first | exact ⟨fun _ => rfl, fun q => absurd q (tl_0 p111 h114)⟩ | exact ⟨fun q => absurd (tl_1 p111 h114) q, fun _ => rfl⟩, by rw [ht]; exact hP, va_K.moved hW.alike hK, hD⟩, hS.F ht⟩) hS.2.2 dd_Model_end_248
              · skip
                have h148 : 2 = 0 := (nI_eq (a := 2) (b := 0) (by omega) (by omega)).mp h148
                omega
          · skip
            exact absurd ⟨tl_1 p111 h114, tl_1 hg7 h123⟩ hno
        · skip
          refine lv_iconst (v := 1) hx hb dd_Model_end_117 (by decide) ?_
          refine lv_goto (tgt := 131) hx hb dd_Model_end_118 (by decide) ?_
          refine va_put (D := D) (ci := 7) (v := .int (1 : Int32)) (ty := .int) (C := RR_Model) (T := FF_Model) (N := 30) hx hb htb hi_Model tt_Model tt_Model_ok nn_Model hown hK hP hD hS 0 rfl rfl 0 (by decide) hf_76 (fun _ h9 => h9) rfl (by decide +kernel) (rfl) (rfl) (Nat.le_of_ble_eq_true rfl) dd_Model_end_131 (fun H locs hP hD hS => ?_)
          have hP : va_P D kc_all [(o, .inr (7, [.int (1 : Int32), .int (nI n), .ref ml, .ref mm, .ref mw, .ref mc, .int (nI k), .ref mg, .ref md, .int so, .int fo, .ref mb, .long bb, .long bc, .ref mt, .long be, .ref mr, .int (nI rs), .ref mo, .int (nI rc), .ref mx, .ref mp, .ref nk, .ref na, .ref nv, .ref nf, .ref ns, .ref ne, .ref nw, .ref mf]))] H := hP
          have hD : va_D A [(o, .inr (7, [.int (1 : Int32), .int (nI n), .ref ml, .ref mm, .ref mw, .ref mc, .int (nI k), .ref mg, .ref md, .int so, .int fo, .ref mb, .long bb, .long bc, .ref mt, .long be, .ref mr, .int (nI rs), .ref mo, .int (nI rc), .ref mx, .ref mp, .ref nk, .ref na, .ref nv, .ref nf, .ref ns, .ref ne, .ref nw, .ref mf]))] := hD
          refine lv_iconst (v := 0) hx hb dd_Model_end_134 (by decide) ?_
          refine lv_istore (lv' := [(10, .int (0 : Int32)), (0, .ref o), (1, .int nv0), (2, .int x0), (3, .int x1), (4, .int x2), (5, .int x3), (6, .int x4), (7, .int x5), (8, .int x6), (9, .int g9)]) hx hb dd_Model_end_135 hl (by decide) rfl (fun ls hl => ?_)
          refine lv_iload hx hb dd_Model_end_137 (lv_at hl 0 rfl) ?_
          refine lv_bipush (v := 7) hx hb dd_Model_end_139 (by decide) ?_
          refine lv_icmp_ge (tgt := 248) hx hb dd_Model_end_141 (by decide) (fun h141 => ?_) (fun h141 => ?_)
          · skip
            have h141 : 7 ≤ 0 := (nI_leI (a := 7) (b := 0) (by omega) (by omega)).mp h141
            omega
          · skip
            have h141 : ¬ (7 ≤ 0) := fun q9 => h141 ((nI_leI (a := 7) (b := 0) (by omega) (by omega)).mpr q9)
            refine lv_aload_n hx hb dd_Model_end_144 rfl (lv_at hl 1 rfl) ?_
            refine va_get (D := D) (ci := 7) (v := .int (1 : Int32)) (C := RR_Model) (T := FF_Model) (N := 30) hx hb htb hi_Model hown hK hP 0 rfl rfl 0 (by decide) hf_76 (fun _ h9 => h9) rfl dd_Model_end_145 ?_
            refine lv_if_ne (tgt := 248) hx hb dd_Model_end_148 (by decide) (fun h148 => ?_) (fun h148 => ?_)
            · skip
              have h148 : ¬ (1 = 0) := fun q9 => h148 ((nI_eq (a := 1) (b := 0) (by omega) (by omega)).mpr q9)
              exact W.vret hx hb hr (fun t ht hW => ⟨⟨(1 : Int32), rfl, by first | exact ⟨fun _ => rfl, fun q => absurd q (tl_0 p111 h114)⟩ | exact ⟨fun q => absurd (tl_1 p111 h114) q, fun _ => rfl⟩, by rw [ht]; exact hP, va_K.moved hW.alike hK, hD⟩, hS.F ht⟩) hS.2.2 dd_Model_end_248
            · skip
              have h148 : 1 = 0 := (nI_eq (a := 1) (b := 0) (by omega) (by omega)).mp h148
              omega
      · skip
        have h10 : ¬ (7 ≤ j) := fun q9 => h10 ((nI_leI (a := 7) (b := j) (by omega) (by omega)).mpr q9)
        have J80 : ∀ (ls : Array Slot) (H : Heap) (locs : List Loc), lv_has ls 12 [(0, .ref o), (1, .int nv0), (2, .int x0), (3, .int x1), (4, .int x2), (5, .int x3), (6, .int x4), (7, .int x5), (8, .int x6), (9, .int g9), (10, .int (nI j)), (11, .int (p7_f j x0 x1 x2 x3 x4 x5 x6))] → va_P D kc_all [(o, .inr (7, [.int thr, .int (nI n), .ref ml, .ref mm, .ref mw, .ref mc, .int (nI k), .ref mg, .ref md, .int so, .int fo, .ref mb, .long bb, .long bc, .ref mt, .long be, .ref mr, .int (nI rs), .ref mo, .int (nI rc), .ref mx, .ref mp, .ref nk, .ref na, .ref nv, .ref nf, .ref ns, .ref ne, .ref nw, .ref mf]))] H → va_D A [(o, .inr (7, [.int thr, .int (nI n), .ref ml, .ref mm, .ref mw, .ref mc, .int (nI k), .ref mg, .ref md, .int so, .int fo, .ref mb, .long bb, .long bc, .ref mt, .long be, .ref mr, .int (nI rs), .ref mo, .int (nI rc), .ref mx, .ref mp, .ref nk, .ref na, .ref nv, .ref nf, .ref ns, .ref ne, .ref nw, .ref mf]))] → va_S A s.heap H locs → W p l e (headSpec ww_Model_end ({ frames := 1, cells := 0, slots := 0, locals := 22 } : Room)).room s m ([.ref o, .int nv0, .int x0, .int x1, .int x2, .int x3, .int x4, .int x5, .int x6]).toArray below meth c H locs 0 0 (MQ below (qq_Model_endN D cI cZ cL cQ o ml mm mw mc mg md mb mt mr mo mx mp nk na nv nf ns ne nw mf thr n k so fo bb bc be rs rc nv0 x0 x1 x2 x3 x4 x5 x6 A) ([.ref o, .int nv0, .int x0, .int x1, .int x2, .int x3, .int x4, .int x5, .int x6]).toArray s 0 0 A) (F0 m 80 ls []) := by
          intro   ls H locs hl hP hD hS
          refine lv_iload hx hb dd_Model_end_80 (lv_at hl 9 rfl) ?_
          refine lv_if_eq (tgt := 100) hx hb dd_Model_end_82 (by decide) (fun h82 => ?_) (fun h82 => ?_)
          · skip
            refine lv_iconst (v := 0) hx hb dd_Model_end_100 (by decide) ?_
            refine lv_istore (lv' := [(9, .int (0 : Int32)), (0, .ref o), (1, .int nv0), (2, .int x0), (3, .int x1), (4, .int x2), (5, .int x3), (6, .int x4), (7, .int x5), (8, .int x6), (10, .int (nI j)), (11, .int (p7_f j x0 x1 x2 x3 x4 x5 x6))]) hx hb dd_Model_end_101 hl (by decide) rfl (fun ls hl => ?_)
            refine lv_iinc (k := 10) (v := nI (j + 1)) (lv' := [(10, .int (nI (j + 1))), (9, .int (0 : Int32)), (0, .ref o), (1, .int nv0), (2, .int x0), (3, .int x1), (4, .int x2), (5, .int x3), (6, .int x4), (7, .int x5), (8, .int x6), (11, .int (p7_f j x0 x1 x2 x3 x4 x5 x6))]) hx hb dd_Model_end_103 hl rfl (nI_1 _) (by decide) rfl (fun ls hl => ?_)
            refine lv_goto (tgt := 6) hx hb dd_Model_end_106 (by decide) ?_
            exact IH6 (j + 1) (0 : Int32) (by omega) (by omega) (by first | exact eg_a hg h82 | exact eg_b p90 h93 | exact eg_c hg h82 p90 h93) ls H locs (lv_sub hl [2, 3, 4, 5, 6, 7, 8, 9, 10, 1, 0] rfl) hP hD hS
          · skip
            refine lv_iload hx hb dd_Model_end_85 (lv_at hl 11 rfl) ?_
            refine lv_iconst (v := 0) hx hb dd_Model_end_87 (by decide) ?_
            refine lv_ldc (v := 1000000) hx hb hown (htb _ kn_Model_152) dd_Model_end_88 ?_
            refine mm_i (wc := []) (wr := [(o, .inr (7, [.int thr, .int (nI n), .ref ml, .ref mm, .ref mw, .ref mc, .int (nI k), .ref mg, .ref md, .int so, .int fo, .ref mb, .long bb, .long bc, .ref mt, .long be, .ref mr, .int (nI rs), .ref mo, .int (nI rc), .ref mx, .ref mp, .ref nk, .ref na, .ref nv, .ref nf, .ref ns, .ref ne, .ref nw, .ref mf]))]) (va_runS (As := [.int (p7_f j x0 x1 x2 x3 x4 x5 x6), .int (0 : Int32), .int (1000000 : Int32)]) (rest := []) ⟨hx, hb, hml, hown, hts⟩ (cc_Model_isIn l D cI cZ cL cQ _ (p7_f j x0 x1 x2 x3 x4 x5 x6) (0 : Int32) (1000000 : Int32) ) (mm_cwS 3 hts ml_Model_79 sm_Model_isIn ic_Model cd_Model_isIn rfl rfl (by decide +kernel) ⟨Nat.le_of_ble_eq_true rfl, Nat.le_of_ble_eq_true rfl⟩) (mm_preS hK hP hD [] (by decide) rfl) rfl rfl hl.1 rfl (lv_room (Nat.le_of_ble_eq_true rfl)) dd_Model_end_90 ⟨Nat.zero_le _, Nat.zero_le _⟩) hP hD hS hA [] [0] rfl rfl (by decide) (by decide) (fun zr3 zu4 H locs p90 hP hD hS => ?_)
            have hP : va_P D kc_all [(o, .inr (7, [.int thr, .int (nI n), .ref ml, .ref mm, .ref mw, .ref mc, .int (nI k), .ref mg, .ref md, .int so, .int fo, .ref mb, .long bb, .long bc, .ref mt, .long be, .ref mr, .int (nI rs), .ref mo, .int (nI rc), .ref mx, .ref mp, .ref nk, .ref na, .ref nv, .ref nf, .ref ns, .ref ne, .ref nw, .ref mf]))] H := hP
            have hD : va_D A [(o, .inr (7, [.int thr, .int (nI n), .ref ml, .ref mm, .ref mw, .ref mc, .int (nI k), .ref mg, .ref md, .int so, .int fo, .ref mb, .long bb, .long bc, .ref mt, .long be, .ref mr, .int (nI rs), .ref mo, .int (nI rc), .ref mx, .ref mp, .ref nk, .ref na, .ref nv, .ref nf, .ref ns, .ref ne, .ref nw, .ref mf]))] := hD
            have p90 : tl_ok (in_ok (p7_f j x0 x1 x2 x3 x4 x5 x6) (0 : Int32) (1000000 : Int32)) zr3 := p90
            refine lv_if_eq (tgt := 100) hx hb dd_Model_end_93 (by decide) (fun h93 => ?_) (fun h93 => ?_)
            · skip
              refine lv_iconst (v := 0) hx hb dd_Model_end_100 (by decide) ?_
              refine lv_istore (lv' := [(9, .int (0 : Int32)), (0, .ref o), (1, .int nv0), (2, .int x0), (3, .int x1), (4, .int x2), (5, .int x3), (6, .int x4), (7, .int x5), (8, .int x6), (10, .int (nI j)), (11, .int (p7_f j x0 x1 x2 x3 x4 x5 x6))]) hx hb dd_Model_end_101 hl (by decide) rfl (fun ls hl => ?_)
              refine lv_iinc (k := 10) (v := nI (j + 1)) (lv' := [(10, .int (nI (j + 1))), (9, .int (0 : Int32)), (0, .ref o), (1, .int nv0), (2, .int x0), (3, .int x1), (4, .int x2), (5, .int x3), (6, .int x4), (7, .int x5), (8, .int x6), (11, .int (p7_f j x0 x1 x2 x3 x4 x5 x6))]) hx hb dd_Model_end_103 hl rfl (nI_1 _) (by decide) rfl (fun ls hl => ?_)
              refine lv_goto (tgt := 6) hx hb dd_Model_end_106 (by decide) ?_
              exact IH6 (j + 1) (0 : Int32) (by omega) (by omega) (by first | exact eg_a hg h82 | exact eg_b p90 h93 | exact eg_c hg h82 p90 h93) ls H locs (lv_sub hl [2, 3, 4, 5, 6, 7, 8, 9, 10, 1, 0] rfl) hP hD hS
            · skip
              refine lv_iconst (v := 1) hx hb dd_Model_end_96 (by decide) ?_
              refine lv_goto (tgt := 101) hx hb dd_Model_end_97 (by decide) ?_
              refine lv_istore (lv' := [(9, .int (1 : Int32)), (0, .ref o), (1, .int nv0), (2, .int x0), (3, .int x1), (4, .int x2), (5, .int x3), (6, .int x4), (7, .int x5), (8, .int x6), (10, .int (nI j)), (11, .int (p7_f j x0 x1 x2 x3 x4 x5 x6))]) hx hb dd_Model_end_101 hl (by decide) rfl (fun ls hl => ?_)
              refine lv_iinc (k := 10) (v := nI (j + 1)) (lv' := [(10, .int (nI (j + 1))), (9, .int (1 : Int32)), (0, .ref o), (1, .int nv0), (2, .int x0), (3, .int x1), (4, .int x2), (5, .int x3), (6, .int x4), (7, .int x5), (8, .int x6), (11, .int (p7_f j x0 x1 x2 x3 x4 x5 x6))]) hx hb dd_Model_end_103 hl rfl (nI_1 _) (by decide) rfl (fun ls hl => ?_)
              refine lv_goto (tgt := 6) hx hb dd_Model_end_106 (by decide) ?_
              exact IH6 (j + 1) (1 : Int32) (by omega) (by omega) (by first | exact eg_a hg h82 | exact eg_b p90 h93 | exact eg_c hg h82 p90 h93) ls H locs (lv_sub hl [2, 3, 4, 5, 6, 7, 8, 9, 10, 1, 0] rfl) hP hD hS
        refine lv_iload hx hb dd_Model_end_13 (lv_at hl 10 rfl) ?_
        refine lv_if_ne (tgt := 22) hx hb dd_Model_end_15 (by decide) (fun h15 => ?_) (fun h15 => ?_)
        · skip
          have h15 : ¬ (j = 0) := fun q9 => h15 ((nI_eq (a := j) (b := 0) (by omega) (by omega)).mpr q9)
          refine lv_iload hx hb dd_Model_end_22 (lv_at hl 10 rfl) ?_
          refine lv_iconst (v := 1) hx hb dd_Model_end_24 (by decide) ?_
          refine lv_icmp_ne (tgt := 32) hx hb dd_Model_end_25 (by decide) (fun h25 => ?_) (fun h25 => ?_)
          · skip
            have h25 : ¬ (j = 1) := fun q9 => h25 ((nI_eq (a := j) (b := 1) (by omega) (by omega)).mpr q9)
            refine lv_iload hx hb dd_Model_end_32 (lv_at hl 10 rfl) ?_
            refine lv_iconst (v := 2) hx hb dd_Model_end_34 (by decide) ?_
            refine lv_icmp_ne (tgt := 43) hx hb dd_Model_end_35 (by decide) (fun h35 => ?_) (fun h35 => ?_)
            · skip
              have h35 : ¬ (j = 2) := fun q9 => h35 ((nI_eq (a := j) (b := 2) (by omega) (by omega)).mpr q9)
              refine lv_iload hx hb dd_Model_end_43 (lv_at hl 10 rfl) ?_
              refine lv_iconst (v := 3) hx hb dd_Model_end_45 (by decide) ?_
              refine lv_icmp_ne (tgt := 54) hx hb dd_Model_end_46 (by decide) (fun h46 => ?_) (fun h46 => ?_)
              · skip
                have h46 : ¬ (j = 3) := fun q9 => h46 ((nI_eq (a := j) (b := 3) (by omega) (by omega)).mpr q9)
                refine lv_iload hx hb dd_Model_end_54 (lv_at hl 10 rfl) ?_
                refine lv_iconst (v := 4) hx hb dd_Model_end_56 (by decide) ?_
                refine lv_icmp_ne (tgt := 65) hx hb dd_Model_end_57 (by decide) (fun h57 => ?_) (fun h57 => ?_)
                · skip
                  have h57 : ¬ (j = 4) := fun q9 => h57 ((nI_eq (a := j) (b := 4) (by omega) (by omega)).mpr q9)
                  refine lv_iload hx hb dd_Model_end_65 (lv_at hl 10 rfl) ?_
                  refine lv_iconst (v := 5) hx hb dd_Model_end_67 (by decide) ?_
                  refine lv_icmp_ne (tgt := 76) hx hb dd_Model_end_68 (by decide) (fun h68 => ?_) (fun h68 => ?_)
                  · skip
                    have h68 : ¬ (j = 5) := fun q9 => h68 ((nI_eq (a := j) (b := 5) (by omega) (by omega)).mpr q9)
                    refine lv_iload hx hb dd_Model_end_76 (lv_at hl 8 rfl) ?_
                    refine mm_topi (y := p7_f j x0 x1 x2 x3 x4 x5 x6) (by first | exact p7_0 h15 | exact p7_1 h25 | exact p7_2 h35 | exact p7_3 h46 | exact p7_4 h57 | exact p7_5 h68 | exact p7_6 h15 h25 h35 h46 h57 h68) ?_
                    refine lv_istore (lv' := [(11, .int (p7_f j x0 x1 x2 x3 x4 x5 x6)), (0, .ref o), (1, .int nv0), (2, .int x0), (3, .int x1), (4, .int x2), (5, .int x3), (6, .int x4), (7, .int x5), (8, .int x6), (9, .int g9), (10, .int (nI j))]) hx hb dd_Model_end_78 hl (by decide) rfl (fun ls hl => ?_)
                    exact J80   ls H locs (lv_sub hl [1, 2, 3, 4, 5, 6, 7, 8, 9, 10, 11, 0] rfl) hP hD hS
                  · skip
                    have h68 : j = 5 := (nI_eq (a := j) (b := 5) (by omega) (by omega)).mp h68
                    refine lv_iload hx hb dd_Model_end_71 (lv_at hl 7 rfl) ?_
                    refine lv_goto (tgt := 78) hx hb dd_Model_end_73 (by decide) ?_
                    refine mm_topi (y := p7_f j x0 x1 x2 x3 x4 x5 x6) (by first | exact p7_0 h15 | exact p7_1 h25 | exact p7_2 h35 | exact p7_3 h46 | exact p7_4 h57 | exact p7_5 h68 | exact p7_6 h15 h25 h35 h46 h57 h68) ?_
                    refine lv_istore (lv' := [(11, .int (p7_f j x0 x1 x2 x3 x4 x5 x6)), (0, .ref o), (1, .int nv0), (2, .int x0), (3, .int x1), (4, .int x2), (5, .int x3), (6, .int x4), (7, .int x5), (8, .int x6), (9, .int g9), (10, .int (nI j))]) hx hb dd_Model_end_78 hl (by decide) rfl (fun ls hl => ?_)
                    exact J80   ls H locs (lv_sub hl [1, 2, 3, 4, 5, 6, 7, 8, 9, 10, 11, 0] rfl) hP hD hS
                · skip
                  have h57 : j = 4 := (nI_eq (a := j) (b := 4) (by omega) (by omega)).mp h57
                  refine lv_iload hx hb dd_Model_end_60 (lv_at hl 6 rfl) ?_
                  refine lv_goto (tgt := 78) hx hb dd_Model_end_62 (by decide) ?_
                  refine mm_topi (y := p7_f j x0 x1 x2 x3 x4 x5 x6) (by first | exact p7_0 h15 | exact p7_1 h25 | exact p7_2 h35 | exact p7_3 h46 | exact p7_4 h57 | exact p7_5 h68 | exact p7_6 h15 h25 h35 h46 h57 h68) ?_
                  refine lv_istore (lv' := [(11, .int (p7_f j x0 x1 x2 x3 x4 x5 x6)), (0, .ref o), (1, .int nv0), (2, .int x0), (3, .int x1), (4, .int x2), (5, .int x3), (6, .int x4), (7, .int x5), (8, .int x6), (9, .int g9), (10, .int (nI j))]) hx hb dd_Model_end_78 hl (by decide) rfl (fun ls hl => ?_)
                  exact J80   ls H locs (lv_sub hl [1, 2, 3, 4, 5, 6, 7, 8, 9, 10, 11, 0] rfl) hP hD hS
              · skip
                have h46 : j = 3 := (nI_eq (a := j) (b := 3) (by omega) (by omega)).mp h46
                refine lv_iload hx hb dd_Model_end_49 (lv_at hl 5 rfl) ?_
                refine lv_goto (tgt := 78) hx hb dd_Model_end_51 (by decide) ?_
                refine mm_topi (y := p7_f j x0 x1 x2 x3 x4 x5 x6) (by first | exact p7_0 h15 | exact p7_1 h25 | exact p7_2 h35 | exact p7_3 h46 | exact p7_4 h57 | exact p7_5 h68 | exact p7_6 h15 h25 h35 h46 h57 h68) ?_
                refine lv_istore (lv' := [(11, .int (p7_f j x0 x1 x2 x3 x4 x5 x6)), (0, .ref o), (1, .int nv0), (2, .int x0), (3, .int x1), (4, .int x2), (5, .int x3), (6, .int x4), (7, .int x5), (8, .int x6), (9, .int g9), (10, .int (nI j))]) hx hb dd_Model_end_78 hl (by decide) rfl (fun ls hl => ?_)
                exact J80   ls H locs (lv_sub hl [1, 2, 3, 4, 5, 6, 7, 8, 9, 10, 11, 0] rfl) hP hD hS
            · skip
              have h35 : j = 2 := (nI_eq (a := j) (b := 2) (by omega) (by omega)).mp h35
              refine lv_iload hx hb dd_Model_end_38 (lv_at hl 4 rfl) ?_
              refine lv_goto (tgt := 78) hx hb dd_Model_end_40 (by decide) ?_
              refine mm_topi (y := p7_f j x0 x1 x2 x3 x4 x5 x6) (by first | exact p7_0 h15 | exact p7_1 h25 | exact p7_2 h35 | exact p7_3 h46 | exact p7_4 h57 | exact p7_5 h68 | exact p7_6 h15 h25 h35 h46 h57 h68) ?_
              refine lv_istore (lv' := [(11, .int (p7_f j x0 x1 x2 x3 x4 x5 x6)), (0, .ref o), (1, .int nv0), (2, .int x0), (3, .int x1), (4, .int x2), (5, .int x3), (6, .int x4), (7, .int x5), (8, .int x6), (9, .int g9), (10, .int (nI j))]) hx hb dd_Model_end_78 hl (by decide) rfl (fun ls hl => ?_)
              exact J80   ls H locs (lv_sub hl [1, 2, 3, 4, 5, 6, 7, 8, 9, 10, 11, 0] rfl) hP hD hS
          · skip
            have h25 : j = 1 := (nI_eq (a := j) (b := 1) (by omega) (by omega)).mp h25
            refine lv_iload_n hx hb dd_Model_end_28 rfl (lv_at hl 3 rfl) ?_
            refine lv_goto (tgt := 78) hx hb dd_Model_end_29 (by decide) ?_
            refine mm_topi (y := p7_f j x0 x1 x2 x3 x4 x5 x6) (by first | exact p7_0 h15 | exact p7_1 h25 | exact p7_2 h35 | exact p7_3 h46 | exact p7_4 h57 | exact p7_5 h68 | exact p7_6 h15 h25 h35 h46 h57 h68) ?_
            refine lv_istore (lv' := [(11, .int (p7_f j x0 x1 x2 x3 x4 x5 x6)), (0, .ref o), (1, .int nv0), (2, .int x0), (3, .int x1), (4, .int x2), (5, .int x3), (6, .int x4), (7, .int x5), (8, .int x6), (9, .int g9), (10, .int (nI j))]) hx hb dd_Model_end_78 hl (by decide) rfl (fun ls hl => ?_)
            exact J80   ls H locs (lv_sub hl [1, 2, 3, 4, 5, 6, 7, 8, 9, 10, 11, 0] rfl) hP hD hS
        · skip
          have h15 : j = 0 := (nI_eq (a := j) (b := 0) (by omega) (by omega)).mp h15
          refine lv_iload_n hx hb dd_Model_end_18 rfl (lv_at hl 2 rfl) ?_
          refine lv_goto (tgt := 78) hx hb dd_Model_end_19 (by decide) ?_
          refine mm_topi (y := p7_f j x0 x1 x2 x3 x4 x5 x6) (by first | exact p7_0 h15 | exact p7_1 h25 | exact p7_2 h35 | exact p7_3 h46 | exact p7_4 h57 | exact p7_5 h68 | exact p7_6 h15 h25 h35 h46 h57 h68) ?_
          refine lv_istore (lv' := [(11, .int (p7_f j x0 x1 x2 x3 x4 x5 x6)), (0, .ref o), (1, .int nv0), (2, .int x0), (3, .int x1), (4, .int x2), (5, .int x3), (6, .int x4), (7, .int x5), (8, .int x6), (9, .int g9), (10, .int (nI j))]) hx hb dd_Model_end_78 hl (by decide) rfl (fun ls hl => ?_)
          exact J80   ls H locs (lv_sub hl [1, 2, 3, 4, 5, 6, 7, 8, 9, 10, 11, 0] rfl) hP hD hS
  exact J6 _ 0 (1 : Int32) (Nat.lt_succ_self _) (by omega) (eg_0) ls _ _ (lv_sub hl [2, 3, 4, 5, 6, 7, 8, 9, 10, 1, 0] rfl) hP hD hS
