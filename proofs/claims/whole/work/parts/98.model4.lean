abbrev qq_Model_keeps (D : va_G) (cI cZ cL cQ : ClassId) (o : Nat) (ml : Nat) (mm : Nat) (mw : Nat) (mc : Nat) (mg : Nat) (md : Nat) (mb : Nat) (mt : Nat) (mr : Nat) (mo : Nat) (mx : Nat) (mp : Nat) (nk : Nat) (na : Nat) (nv : Nat) (nf : Nat) (ns : Nat) (ne : Nat) (nw : Nat) (mf : Nat) (thr : Int32) (n : Nat) (k : Nat) (so : Int32) (fo : Int32) (bb : Int64) (bc : Int64) (be : Int64) (rs : Nat) (rc : Nat) (x0 : Int32) (x1 : Int32) (x2 : Int32) (x3 : Int32) (qv : Int32) (lo : Nat → Int32) (hi : Nat → Int32) (wt : Nat → Int32) (bd : Nat → Int32) (tr : Nat → Int64) (wh : Nat → Int32) (A : Nat → Prop) : Array Value → State → Outcome → State → Prop := va_Qi (fun (r : Int32) (u : (Nat → Int64)) => tl_ok (kw_ok wh x0 x1 x2 x3 qv n ∧ mp_ok lo hi wt bd u qv.toInt64 n k) r ∧ u = ml_f (fun j9 => (pk_f j9 x0 x1 x2 x3).toInt64) tr n) (fun (u : (Nat → Int64)) t => mm_B D kc_all [(cI, .int), (cZ, .boolean), (cL, .long), (cQ, .array .int)] A [(o, .inr (7, [.int 0, .int (nI n), .ref ml, .ref mm, .ref mw, .ref mc, .int (nI k), .ref mg, .ref md, .int so, .int fo, .ref mb, .long bb, .long bc, .ref mt, .long qv.toInt64, .ref mr, .int (nI rs), .ref mo, .int (nI rc), .ref mx, .ref mp, .ref nk, .ref na, .ref nv, .ref nf, .ref ns, .ref ne, .ref nw, .ref mf])), (ml, .inl (cI, 4, .inl lo)), (mm, .inl (cI, 4, .inl hi)), (mg, .inl (cI, 24, .inl wt)), (md, .inl (cI, 6, .inl bd)), (mt, .inl (cL, 4, .inr (.inl u))), (mw, .inl (cZ, 4, .inl wh))] t) A
set_option maxHeartbeats 4000000 in
set_option maxRecDepth 100000 in
theorem cc_Model_keeps (l : Launch) (D : va_G) (cI cZ cL cQ : ClassId) (sz : Nat) (o : Nat) (ml : Nat) (mm : Nat) (mw : Nat) (mc : Nat) (mg : Nat) (md : Nat) (mb : Nat) (mt : Nat) (mr : Nat) (mo : Nat) (mx : Nat) (mp : Nat) (nk : Nat) (na : Nat) (nv : Nat) (nf : Nat) (ns : Nat) (ne : Nat) (nw : Nat) (mf : Nat) (thr : Int32) (n : Nat) (k : Nat) (so : Int32) (fo : Int32) (bb : Int64) (bc : Int64) (be : Int64) (rs : Nat) (rc : Nat) (x0 : Int32) (x1 : Int32) (x2 : Int32) (x3 : Int32) (qv : Int32) (lo : Nat → Int32) (hi : Nat → Int32) (wt : Nat → Int32) (bd : Nat → Int32) (tr : Nat → Int64) (wh : Nat → Int32) (hn : n ≤ 4) (hk : k ≤ 6) (hok : kq_ok x0 x1 x2 x3 qv 4) : Met l yy_Model_keeps ww_Model_keeps ({ frames := 1, cells := 0, slots := 0, locals := 24 } : Room) (mm_Pc D kc_all [(cI, .int), (cZ, .boolean), (cL, .long), (cQ, .array .int)] sz [(o, .inr (7, [.int thr, .int (nI n), .ref ml, .ref mm, .ref mw, .ref mc, .int (nI k), .ref mg, .ref md, .int so, .int fo, .ref mb, .long bb, .long bc, .ref mt, .long be, .ref mr, .int (nI rs), .ref mo, .int (nI rc), .ref mx, .ref mp, .ref nk, .ref na, .ref nv, .ref nf, .ref ns, .ref ne, .ref nw, .ref mf])), (ml, .inl (cI, 4, .inl lo)), (mm, .inl (cI, 4, .inl hi)), (mg, .inl (cI, 24, .inl wt)), (md, .inl (cI, 6, .inl bd)), (mt, .inl (cL, 4, .inr (.inl tr))), (mw, .inl (cZ, 4, .inl wh))] [.ref o, .int x0, .int x1, .int x2, .int x3, .int qv]) (qq_Model_keeps D cI cZ cL cQ o ml mm mw mc mg md mb mt mr mo mx mp nk na nv nf ns ne nw mf thr n k so fo bb bc be rs rc x0 x1 x2 x3 qv lo hi wt bd tr wh (va_A [(o, .inr (7, [.int thr, .int (nI n), .ref ml, .ref mm, .ref mw, .ref mc, .int (nI k), .ref mg, .ref md, .int so, .int fo, .ref mb, .long bb, .long bc, .ref mt, .long be, .ref mr, .int (nI rs), .ref mo, .int (nI rc), .ref mx, .ref mp, .ref nk, .ref na, .ref nv, .ref nf, .ref ns, .ref ne, .ref nw, .ref mf])), (ml, .inl (cI, 4, .inl lo)), (mm, .inl (cI, 4, .inl hi)), (mg, .inl (cI, 24, .inl wt)), (md, .inl (cI, 6, .inl bd)), (mt, .inl (cL, 4, .inr (.inl tr))), (mw, .inl (cZ, 4, .inl wh))] sz)) 0 0 (va_A [(o, .inr (7, [.int thr, .int (nI n), .ref ml, .ref mm, .ref mw, .ref mc, .int (nI k), .ref mg, .ref md, .int so, .int fo, .ref mb, .long bb, .long bc, .ref mt, .long be, .ref mr, .int (nI rs), .ref mo, .int (nI rc), .ref mx, .ref mp, .ref nk, .ref na, .ref nv, .ref nf, .ref ns, .ref ne, .ref nw, .ref mf])), (ml, .inl (cI, 4, .inl lo)), (mm, .inl (cI, 4, .inl hi)), (mg, .inl (cI, 24, .inl wt)), (md, .inl (cI, 6, .inl bd)), (mt, .inl (cL, 4, .inr (.inl tr))), (mw, .inl (cZ, 4, .inl wh))] sz) := by
  refine Met.ofW (cc := bb_Model_keeps) (maxL := 9) (ret := (some .boolean)) (by decide) rfl ?_
  intro p e s m args below meth c s₁ B hml hv
  obtain ⟨rfl, hsz, hP, hK, hD0⟩ := hv
  have hx := B.exec
  have hb := B.bytes
  have hr := B.returns
  have hts := atoms_spec (ws := ww_Model_keeps) B.pre
  have hown : s.vm.findClass RR_Model = some m.cls := findClass_of_methodNamed B.named
  have hlocks := B.notSynchronized
  subst hsz
  have hD := hD0.self (sz := s.heap.size)
  generalize hAe : va_A [(o, .inr (7, [.int thr, .int (nI n), .ref ml, .ref mm, .ref mw, .ref mc, .int (nI k), .ref mg, .ref md, .int so, .int fo, .ref mb, .long bb, .long bc, .ref mt, .long be, .ref mr, .int (nI rs), .ref mo, .int (nI rc), .ref mx, .ref mp, .ref nk, .ref na, .ref nv, .ref nf, .ref ns, .ref ne, .ref nw, .ref mf])), (ml, .inl (cI, 4, .inl lo)), (mm, .inl (cI, 4, .inl hi)), (mg, .inl (cI, 24, .inl wt)), (md, .inl (cI, 6, .inl bd)), (mt, .inl (cL, 4, .inr (.inl tr))), (mw, .inl (cZ, 4, .inl wh))] s.heap.size = A at hD ⊢
  have hA : ∀ q : Nat, s.heap.size ≤ q → A q := fun q h => by rw [← hAe]; exact Or.inr h
  have hS : va_S A s.heap s.heap [] := va_S.rf
  have hP : va_P D kc_all [(o, .inr (7, [.int thr, .int (nI n), .ref ml, .ref mm, .ref mw, .ref mc, .int (nI k), .ref mg, .ref md, .int so, .int fo, .ref mb, .long bb, .long bc, .ref mt, .long be, .ref mr, .int (nI rs), .ref mo, .int (nI rc), .ref mx, .ref mp, .ref nk, .ref na, .ref nv, .ref nf, .ref ns, .ref ne, .ref nw, .ref mf])), (ml, .inl (cI, 4, .inl lo)), (mm, .inl (cI, 4, .inl hi)), (mg, .inl (cI, 24, .inl wt)), (md, .inl (cI, 6, .inl bd)), (mt, .inl (cL, 4, .inr (.inl tr))), (mw, .inl (cZ, 4, .inl wh))] s.heap := hP
  have hl := lv_entry ([.ref o, .int x0, .int x1, .int x2, .int x3, .int qv]) (n := 9) (Nat.le_of_ble_eq_true rfl)
  rw [lg_entry_eq]
  generalize (lg_sl ([.ref o, .int x0, .int x1, .int x2, .int x3, .int qv]) ++ List.replicate (9 - (lg_sl ([.ref o, .int x0, .int x1, .int x2, .int x3, .int qv])).length) Slot.unset).toArray = ls at hl ⊢
  have hl : lv_has ls 9 [(0, .ref o), (1, .int x0), (2, .int x1), (3, .int x2), (4, .int x3), (5, .int qv)] := hl
  have htb : ∀ w ∈ tb_all, w.before ([.ref o, .int x0, .int x1, .int x2, .int x3, .int qv]).toArray s = true := fun w h => hts w (List.mem_cons_of_mem _ h)
  have hf_7 := htb _ fl_Model_7
  have hf_20 := htb _ fl_Model_20
  have hf_37 := htb _ fl_Model_37
  have hf_76 := htb _ fl_Model_76
  have hf_93 := htb _ fl_Model_93
  refine lv_iload hx hb dd_Model_keeps_0 (lv_at hl 5 rfl) ?_
  refine lv_iconst (v := 1) hx hb dd_Model_keeps_2 (by decide) ?_
  refine lv_sipush (v := 1000) hx hb dd_Model_keeps_3 (by decide) ?_
  refine mm_i (wc := []) (wr := [(o, .inr (7, [.int thr, .int (nI n), .ref ml, .ref mm, .ref mw, .ref mc, .int (nI k), .ref mg, .ref md, .int so, .int fo, .ref mb, .long bb, .long bc, .ref mt, .long be, .ref mr, .int (nI rs), .ref mo, .int (nI rc), .ref mx, .ref mp, .ref nk, .ref na, .ref nv, .ref nf, .ref ns, .ref ne, .ref nw, .ref mf])), (ml, .inl (cI, 4, .inl lo)), (mm, .inl (cI, 4, .inl hi)), (mg, .inl (cI, 24, .inl wt)), (md, .inl (cI, 6, .inl bd)), (mt, .inl (cL, 4, .inr (.inl tr))), (mw, .inl (cZ, 4, .inl wh))]) (va_runS (As := [.int qv, .int (1 : Int32), .int (1000 : Int32)]) (rest := []) ⟨hx, hb, hml, hown, hts⟩ (cc_Model_isIn l D cI cZ cL cQ _ qv (1 : Int32) (1000 : Int32) ) (mm_cwS 3 hts ml_Model_79 sm_Model_isIn ic_Model cd_Model_isIn rfl rfl (by decide +kernel) ⟨Nat.le_of_ble_eq_true rfl, Nat.le_of_ble_eq_true rfl⟩) (mm_preS hK hP hD [] (by decide) rfl) rfl rfl hl.1 rfl (lv_room (Nat.le_of_ble_eq_true rfl)) dd_Model_keeps_6 ⟨Nat.zero_le _, Nat.zero_le _⟩) hP hD hS hA [] [0, 1, 2, 3, 4, 5, 6] rfl rfl (by decide) (by decide) (fun zr1 zu2 H locs p6 hP hD hS => ?_)
  have hP : va_P D kc_all [(o, .inr (7, [.int thr, .int (nI n), .ref ml, .ref mm, .ref mw, .ref mc, .int (nI k), .ref mg, .ref md, .int so, .int fo, .ref mb, .long bb, .long bc, .ref mt, .long be, .ref mr, .int (nI rs), .ref mo, .int (nI rc), .ref mx, .ref mp, .ref nk, .ref na, .ref nv, .ref nf, .ref ns, .ref ne, .ref nw, .ref mf])), (ml, .inl (cI, 4, .inl lo)), (mm, .inl (cI, 4, .inl hi)), (mg, .inl (cI, 24, .inl wt)), (md, .inl (cI, 6, .inl bd)), (mt, .inl (cL, 4, .inr (.inl tr))), (mw, .inl (cZ, 4, .inl wh))] H := hP
  have hD : va_D A [(o, .inr (7, [.int thr, .int (nI n), .ref ml, .ref mm, .ref mw, .ref mc, .int (nI k), .ref mg, .ref md, .int so, .int fo, .ref mb, .long bb, .long bc, .ref mt, .long be, .ref mr, .int (nI rs), .ref mo, .int (nI rc), .ref mx, .ref mp, .ref nk, .ref na, .ref nv, .ref nf, .ref ns, .ref ne, .ref nw, .ref mf])), (ml, .inl (cI, 4, .inl lo)), (mm, .inl (cI, 4, .inl hi)), (mg, .inl (cI, 24, .inl wt)), (md, .inl (cI, 6, .inl bd)), (mt, .inl (cL, 4, .inr (.inl tr))), (mw, .inl (cZ, 4, .inl wh))] := hD
  have p6 : tl_ok (in_ok qv (1 : Int32) (1000 : Int32)) zr1 := p6
  refine lv_istore (lv' := [(6, .int zr1), (0, .ref o), (1, .int x0), (2, .int x1), (3, .int x2), (4, .int x3), (5, .int qv)]) hx hb dd_Model_keeps_9 hl (by decide) rfl (fun ls hl => ?_)
  refine lv_iconst (v := 0) hx hb dd_Model_keeps_11 (by decide) ?_
  refine lv_istore (lv' := [(7, .int (0 : Int32)), (6, .int zr1), (0, .ref o), (1, .int x0), (2, .int x1), (3, .int x2), (4, .int x3), (5, .int qv)]) hx hb dd_Model_keeps_12 hl (by decide) rfl (fun ls hl => ?_)
  have J14 : ∀ (N : Nat) (j : Nat) (g9 : Int32), (4 - j) < N → ∀ (hj : j ≤ 4) (hg : tl_ok (kq_ok x0 x1 x2 x3 qv j) g9), ∀ (ls : Array Slot) (H : Heap) (locs : List Loc), lv_has ls 9 [(0, .ref o), (1, .int x0), (2, .int x1), (3, .int x2), (4, .int x3), (5, .int qv), (6, .int g9), (7, .int (nI j))] → va_P D kc_all [(o, .inr (7, [.int thr, .int (nI n), .ref ml, .ref mm, .ref mw, .ref mc, .int (nI k), .ref mg, .ref md, .int so, .int fo, .ref mb, .long bb, .long bc, .ref mt, .long be, .ref mr, .int (nI rs), .ref mo, .int (nI rc), .ref mx, .ref mp, .ref nk, .ref na, .ref nv, .ref nf, .ref ns, .ref ne, .ref nw, .ref mf])), (ml, .inl (cI, 4, .inl lo)), (mm, .inl (cI, 4, .inl hi)), (mg, .inl (cI, 24, .inl wt)), (md, .inl (cI, 6, .inl bd)), (mt, .inl (cL, 4, .inr (.inl tr))), (mw, .inl (cZ, 4, .inl wh))] H → va_D A [(o, .inr (7, [.int thr, .int (nI n), .ref ml, .ref mm, .ref mw, .ref mc, .int (nI k), .ref mg, .ref md, .int so, .int fo, .ref mb, .long bb, .long bc, .ref mt, .long be, .ref mr, .int (nI rs), .ref mo, .int (nI rc), .ref mx, .ref mp, .ref nk, .ref na, .ref nv, .ref nf, .ref ns, .ref ne, .ref nw, .ref mf])), (ml, .inl (cI, 4, .inl lo)), (mm, .inl (cI, 4, .inl hi)), (mg, .inl (cI, 24, .inl wt)), (md, .inl (cI, 6, .inl bd)), (mt, .inl (cL, 4, .inr (.inl tr))), (mw, .inl (cZ, 4, .inl wh))] → va_S A s.heap H locs → W p l e (headSpec ww_Model_keeps ({ frames := 1, cells := 0, slots := 0, locals := 24 } : Room)).room s m ([.ref o, .int x0, .int x1, .int x2, .int x3, .int qv]).toArray below meth c H locs 0 0 (MQ below (qq_Model_keeps D cI cZ cL cQ o ml mm mw mc mg md mb mt mr mo mx mp nk na nv nf ns ne nw mf thr n k so fo bb bc be rs rc x0 x1 x2 x3 qv lo hi wt bd tr wh A) ([.ref o, .int x0, .int x1, .int x2, .int x3, .int qv]).toArray s 0 0 A) (F0 m 14 ls []) := by
    intro N
    induction N with
    | zero => intro j g9 hN9; exact absurd hN9 (Nat.not_lt_zero _)
    | succ N IH14 =>
      intro j g9 hN9 hj hg ls H locs hl hP hD hS
      refine lv_iload hx hb dd_Model_keeps_14 (lv_at hl 7 rfl) ?_
      refine lv_iconst (v := 4) hx hb dd_Model_keeps_16 (by decide) ?_
      refine lv_icmp_ge (tgt := 60) hx hb dd_Model_keeps_17 (by decide) (fun h17 => ?_) (fun h17 => ?_)
      · skip
        have h17 : 4 ≤ j := (nI_leI (a := 4) (b := j) (by omega) (by omega)).mp h17
        have hg4 : tl_ok (kq_ok x0 x1 x2 x3 qv 4) g9 := by rw [show 4 = j by omega]; exact hg
        refine lv_aload_n hx hb dd_Model_keeps_60 rfl (lv_at hl 0 rfl) ?_
        refine lv_iload hx hb dd_Model_keeps_61 (lv_at hl 6 rfl) ?_
        refine lv_if_eq (tgt := 70) hx hb dd_Model_keeps_63 (by decide) (fun h63 => ?_) (fun h63 => ?_)
        · skip
          exact absurd hok (tl_0 hg4 h63)
        · skip
          refine lv_iconst (v := 0) hx hb dd_Model_keeps_66 (by decide) ?_
          refine lv_goto (tgt := 71) hx hb dd_Model_keeps_67 (by decide) ?_
          refine va_put (D := D) (ci := 7) (v := .int (0 : Int32)) (ty := .int) (C := RR_Model) (T := FF_Model) (N := 30) hx hb htb hi_Model tt_Model tt_Model_ok nn_Model hown hK hP hD hS 0 rfl rfl 0 (by decide) hf_76 (fun _ h9 => h9) rfl (by decide +kernel) (rfl) (rfl) (Nat.le_of_ble_eq_true rfl) dd_Model_keeps_71 (fun H locs hP hD hS => ?_)
          have hP : va_P D kc_all [(o, .inr (7, [.int (0 : Int32), .int (nI n), .ref ml, .ref mm, .ref mw, .ref mc, .int (nI k), .ref mg, .ref md, .int so, .int fo, .ref mb, .long bb, .long bc, .ref mt, .long be, .ref mr, .int (nI rs), .ref mo, .int (nI rc), .ref mx, .ref mp, .ref nk, .ref na, .ref nv, .ref nf, .ref ns, .ref ne, .ref nw, .ref mf])), (ml, .inl (cI, 4, .inl lo)), (mm, .inl (cI, 4, .inl hi)), (mg, .inl (cI, 24, .inl wt)), (md, .inl (cI, 6, .inl bd)), (mt, .inl (cL, 4, .inr (.inl tr))), (mw, .inl (cZ, 4, .inl wh))] H := hP
          have hD : va_D A [(o, .inr (7, [.int (0 : Int32), .int (nI n), .ref ml, .ref mm, .ref mw, .ref mc, .int (nI k), .ref mg, .ref md, .int so, .int fo, .ref mb, .long bb, .long bc, .ref mt, .long be, .ref mr, .int (nI rs), .ref mo, .int (nI rc), .ref mx, .ref mp, .ref nk, .ref na, .ref nv, .ref nf, .ref ns, .ref ne, .ref nw, .ref mf])), (ml, .inl (cI, 4, .inl lo)), (mm, .inl (cI, 4, .inl hi)), (mg, .inl (cI, 24, .inl wt)), (md, .inl (cI, 6, .inl bd)), (mt, .inl (cL, 4, .inr (.inl tr))), (mw, .inl (cZ, 4, .inl wh))] := hD
          refine lv_aload_n hx hb dd_Model_keeps_74 rfl (lv_at hl 0 rfl) ?_
          refine va_get (D := D) (ci := 7) (v := .int (0 : Int32)) (C := RR_Model) (T := FF_Model) (N := 30) hx hb htb hi_Model hown hK hP 0 rfl rfl 0 (by decide) hf_76 (fun _ h9 => h9) rfl dd_Model_keeps_75 ?_
          refine lv_if_le (tgt := 83) hx hb dd_Model_keeps_78 (by decide) (fun h78 => ?_) (fun h78 => ?_)
          · skip
            have h78 : 0 ≤ 0 := (nI_leI (a := 0) (b := 0) (by omega) (by omega)).mp h78
            refine lv_aload_n hx hb dd_Model_keeps_83 rfl (lv_at hl 0 rfl) ?_
            refine lv_iload hx hb dd_Model_keeps_84 (lv_at hl 5 rfl) ?_
            refine lv_i2l (v := qv.toInt64) hx hb dd_Model_keeps_86 rfl ?_
            refine va_put (D := D) (ci := 7) (v := .long qv.toInt64) (ty := .long) (C := RR_Model) (T := FF_Model) (N := 30) hx hb htb hi_Model tt_Model tt_Model_ok nn_Model hown hK hP hD hS 0 rfl rfl 15 (by decide) hf_93 (fun _ h9 => h9) rfl (by decide +kernel) (rfl) (rfl) (Nat.le_of_ble_eq_true rfl) dd_Model_keeps_87 (fun H locs hP hD hS => ?_)
            have hP : va_P D kc_all [(o, .inr (7, [.int (0 : Int32), .int (nI n), .ref ml, .ref mm, .ref mw, .ref mc, .int (nI k), .ref mg, .ref md, .int so, .int fo, .ref mb, .long bb, .long bc, .ref mt, .long qv.toInt64, .ref mr, .int (nI rs), .ref mo, .int (nI rc), .ref mx, .ref mp, .ref nk, .ref na, .ref nv, .ref nf, .ref ns, .ref ne, .ref nw, .ref mf])), (ml, .inl (cI, 4, .inl lo)), (mm, .inl (cI, 4, .inl hi)), (mg, .inl (cI, 24, .inl wt)), (md, .inl (cI, 6, .inl bd)), (mt, .inl (cL, 4, .inr (.inl tr))), (mw, .inl (cZ, 4, .inl wh))] H := hP
            have hD : va_D A [(o, .inr (7, [.int (0 : Int32), .int (nI n), .ref ml, .ref mm, .ref mw, .ref mc, .int (nI k), .ref mg, .ref md, .int so, .int fo, .ref mb, .long bb, .long bc, .ref mt, .long qv.toInt64, .ref mr, .int (nI rs), .ref mo, .int (nI rc), .ref mx, .ref mp, .ref nk, .ref na, .ref nv, .ref nf, .ref ns, .ref ne, .ref nw, .ref mf])), (ml, .inl (cI, 4, .inl lo)), (mm, .inl (cI, 4, .inl hi)), (mg, .inl (cI, 24, .inl wt)), (md, .inl (cI, 6, .inl bd)), (mt, .inl (cL, 4, .inr (.inl tr))), (mw, .inl (cZ, 4, .inl wh))] := hD
            refine lv_iconst (v := 1) hx hb dd_Model_keeps_90 (by decide) ?_
            refine lv_istore (lv' := [(7, .int (1 : Int32)), (0, .ref o), (1, .int x0), (2, .int x1), (3, .int x2), (4, .int x3), (5, .int qv), (6, .int g9)]) hx hb dd_Model_keeps_91 hl (by decide) rfl (fun ls hl => ?_)
            refine lv_iconst (v := 0) hx hb dd_Model_keeps_93 (by decide) ?_
            refine lv_istore (lv' := [(8, .int (0 : Int32)), (7, .int (1 : Int32)), (0, .ref o), (1, .int x0), (2, .int x1), (3, .int x2), (4, .int x3), (5, .int qv), (6, .int g9)]) hx hb dd_Model_keeps_94 hl (by decide) rfl (fun ls hl => ?_)
            have J96 : ∀ (N : Nat) (i : Nat) (w9 : Int32) (tr1 : Nat → Int64), (n - i) < N → ∀ (hi9 : i ≤ n) (hw : tl_ok (kw_ok wh x0 x1 x2 x3 qv i) w9) (ht1 : tr1 = ml_f (fun j9 => (pk_f j9 x0 x1 x2 x3).toInt64) tr i), ∀ (ls : Array Slot) (H : Heap) (locs : List Loc), lv_has ls 9 [(0, .ref o), (1, .int x0), (2, .int x1), (3, .int x2), (4, .int x3), (5, .int qv), (7, .int w9), (8, .int (nI i))] → va_P D kc_all [(o, .inr (7, [.int 0, .int (nI n), .ref ml, .ref mm, .ref mw, .ref mc, .int (nI k), .ref mg, .ref md, .int so, .int fo, .ref mb, .long bb, .long bc, .ref mt, .long qv.toInt64, .ref mr, .int (nI rs), .ref mo, .int (nI rc), .ref mx, .ref mp, .ref nk, .ref na, .ref nv, .ref nf, .ref ns, .ref ne, .ref nw, .ref mf])), (ml, .inl (cI, 4, .inl lo)), (mm, .inl (cI, 4, .inl hi)), (mg, .inl (cI, 24, .inl wt)), (md, .inl (cI, 6, .inl bd)), (mt, .inl (cL, 4, .inr (.inl tr1))), (mw, .inl (cZ, 4, .inl wh))] H → va_D A [(o, .inr (7, [.int 0, .int (nI n), .ref ml, .ref mm, .ref mw, .ref mc, .int (nI k), .ref mg, .ref md, .int so, .int fo, .ref mb, .long bb, .long bc, .ref mt, .long qv.toInt64, .ref mr, .int (nI rs), .ref mo, .int (nI rc), .ref mx, .ref mp, .ref nk, .ref na, .ref nv, .ref nf, .ref ns, .ref ne, .ref nw, .ref mf])), (ml, .inl (cI, 4, .inl lo)), (mm, .inl (cI, 4, .inl hi)), (mg, .inl (cI, 24, .inl wt)), (md, .inl (cI, 6, .inl bd)), (mt, .inl (cL, 4, .inr (.inl tr1))), (mw, .inl (cZ, 4, .inl wh))] → va_S A s.heap H locs → W p l e (headSpec ww_Model_keeps ({ frames := 1, cells := 0, slots := 0, locals := 24 } : Room)).room s m ([.ref o, .int x0, .int x1, .int x2, .int x3, .int qv]).toArray below meth c H locs 0 0 (MQ below (qq_Model_keeps D cI cZ cL cQ o ml mm mw mc mg md mb mt mr mo mx mp nk na nv nf ns ne nw mf thr n k so fo bb bc be rs rc x0 x1 x2 x3 qv lo hi wt bd tr wh A) ([.ref o, .int x0, .int x1, .int x2, .int x3, .int qv]).toArray s 0 0 A) (F0 m 96 ls []) := by
              intro N
              induction N with
              | zero => intro i w9 tr1 hN9; exact absurd hN9 (Nat.not_lt_zero _)
              | succ N IH96 =>
                intro i w9 tr1 hN9 hi9 hw ht1 ls H locs hl hP hD hS
                refine lv_iload hx hb dd_Model_keeps_96 (lv_at hl 7 rfl) ?_
                refine lv_aload_n hx hb dd_Model_keeps_98 rfl (lv_at hl 0 rfl) ?_
                refine va_get (D := D) (ci := 7) (v := .int (nI n)) (C := RR_Model) (T := FF_Model) (N := 30) hx hb htb hi_Model hown hK hP 0 rfl rfl 1 (by decide) hf_7 (fun _ h9 => h9) rfl dd_Model_keeps_99 ?_
                refine lv_icmp_ge (tgt := 167) hx hb dd_Model_keeps_102 (by decide) (fun h102 => ?_) (fun h102 => ?_)
                · skip
                  have h102 : n ≤ i := (nI_leI (a := n) (b := i) (by omega) (by omega)).mp h102
                  have hwn : tl_ok (kw_ok wh x0 x1 x2 x3 qv n) w9 := by rw [show n = i by omega]; exact hw
                  have htn : tr1 = ml_f (fun j9 => (pk_f j9 x0 x1 x2 x3).toInt64) tr n := by rw [show n = i by omega]; exact ht1
                  refine lv_iload hx hb dd_Model_keeps_167 (lv_at hl 6 rfl) ?_
                  refine lv_if_eq (tgt := 183) hx hb dd_Model_keeps_169 (by decide) (fun h169 => ?_) (fun h169 => ?_)
                  · skip
                    refine lv_iconst (v := 0) hx hb dd_Model_keeps_183 (by decide) ?_
                    exact W.zret (v := (0 : Int32)) hx hb hr (rfl) (fun t ht hW => ⟨⟨(0 : Int32), tr1, rfl, ⟨by first | exact ka_a hwn h169 | exact ka_b p173 h176 | exact ka_c hwn h169 p173 h176, htn⟩, by rw [ht]; exact hP, va_K.moved hW.alike hK, hD⟩, hS.F ht⟩) hS.2.2 dd_Model_keeps_184
                  · skip
                    refine lv_aload_n hx hb dd_Model_keeps_172 rfl (lv_at hl 0 rfl) ?_
                    refine mm_i (wc := [(o, .inr (7, [.int 0, .int (nI n), .ref ml, .ref mm, .ref mw, .ref mc, .int (nI k), .ref mg, .ref md, .int so, .int fo, .ref mb, .long bb, .long bc, .ref mt, .long qv.toInt64, .ref mr, .int (nI rs), .ref mo, .int (nI rc), .ref mx, .ref mp, .ref nk, .ref na, .ref nv, .ref nf, .ref ns, .ref ne, .ref nw, .ref mf])), (ml, .inl (cI, 4, .inl lo)), (mm, .inl (cI, 4, .inl hi)), (mg, .inl (cI, 24, .inl wt)), (md, .inl (cI, 6, .inl bd)), (mt, .inl (cL, 4, .inr (.inl tr1)))]) (wr := [(mw, .inl (cZ, 4, .inl wh))]) (va_runV (As := []) (rest := []) (C := RR_Model) ⟨hx, hb, hml, hown, hts⟩ (cc_Model_isPlan l D cI cZ cL cQ _ o ml mm mw mc mg md mb mt mr mo mx mp nk na nv nf ns ne nw mf 0 n k so fo bb bc qv.toInt64 rs rc lo hi wt bd tr1 (by omega) (by omega)) (mm_cwV 0 hts ml_Model_97 im_Model_isPlan se_Model_isPlan ic_Model cd_Model_isPlan rfl rfl (by decide +kernel) ⟨Nat.le_of_ble_eq_true rfl, Nat.le_of_ble_eq_true rfl⟩) (mm_preV hK hP hD [0, 1, 2, 3, 4, 5] (by decide) rfl 0 rfl rfl) rfl rfl hl.1 rfl (lv_room (Nat.le_of_ble_eq_true rfl)) dd_Model_keeps_173 ⟨Nat.zero_le _, Nat.zero_le _⟩) hP hD hS hA [0, 1, 2, 3, 4, 5] [6] rfl rfl (by decide) (by decide) (fun zr3 zu4 H locs p173 hP hD hS => ?_)
                    have hP : va_P D kc_all [(mw, .inl (cZ, 4, .inl wh)), (o, .inr (7, [.int 0, .int (nI n), .ref ml, .ref mm, .ref mw, .ref mc, .int (nI k), .ref mg, .ref md, .int so, .int fo, .ref mb, .long bb, .long bc, .ref mt, .long qv.toInt64, .ref mr, .int (nI rs), .ref mo, .int (nI rc), .ref mx, .ref mp, .ref nk, .ref na, .ref nv, .ref nf, .ref ns, .ref ne, .ref nw, .ref mf])), (ml, .inl (cI, 4, .inl lo)), (mm, .inl (cI, 4, .inl hi)), (mg, .inl (cI, 24, .inl wt)), (md, .inl (cI, 6, .inl bd)), (mt, .inl (cL, 4, .inr (.inl tr1)))] H := hP
                    have hD : va_D A [(mw, .inl (cZ, 4, .inl wh)), (o, .inr (7, [.int 0, .int (nI n), .ref ml, .ref mm, .ref mw, .ref mc, .int (nI k), .ref mg, .ref md, .int so, .int fo, .ref mb, .long bb, .long bc, .ref mt, .long qv.toInt64, .ref mr, .int (nI rs), .ref mo, .int (nI rc), .ref mx, .ref mp, .ref nk, .ref na, .ref nv, .ref nf, .ref ns, .ref ne, .ref nw, .ref mf])), (ml, .inl (cI, 4, .inl lo)), (mm, .inl (cI, 4, .inl hi)), (mg, .inl (cI, 24, .inl wt)), (md, .inl (cI, 6, .inl bd)), (mt, .inl (cL, 4, .inr (.inl tr1)))] := hD
                    have hP : va_P D kc_all [(o, .inr (7, [.int 0, .int (nI n), .ref ml, .ref mm, .ref mw, .ref mc, .int (nI k), .ref mg, .ref md, .int so, .int fo, .ref mb, .long bb, .long bc, .ref mt, .long qv.toInt64, .ref mr, .int (nI rs), .ref mo, .int (nI rc), .ref mx, .ref mp, .ref nk, .ref na, .ref nv, .ref nf, .ref ns, .ref ne, .ref nw, .ref mf])), (ml, .inl (cI, 4, .inl lo)), (mm, .inl (cI, 4, .inl hi)), (mg, .inl (cI, 24, .inl wt)), (md, .inl (cI, 6, .inl bd)), (mt, .inl (cL, 4, .inr (.inl tr1))), (mw, .inl (cZ, 4, .inl wh))] H := hP.sub [1, 2, 3, 4, 5, 6, 0] rfl
                    have hD : va_D A [(o, .inr (7, [.int 0, .int (nI n), .ref ml, .ref mm, .ref mw, .ref mc, .int (nI k), .ref mg, .ref md, .int so, .int fo, .ref mb, .long bb, .long bc, .ref mt, .long qv.toInt64, .ref mr, .int (nI rs), .ref mo, .int (nI rc), .ref mx, .ref mp, .ref nk, .ref na, .ref nv, .ref nf, .ref ns, .ref ne, .ref nw, .ref mf])), (ml, .inl (cI, 4, .inl lo)), (mm, .inl (cI, 4, .inl hi)), (mg, .inl (cI, 24, .inl wt)), (md, .inl (cI, 6, .inl bd)), (mt, .inl (cL, 4, .inr (.inl tr1))), (mw, .inl (cZ, 4, .inl wh))] := hD.sub [1, 2, 3, 4, 5, 6, 0] (by decide) rfl
                    have p173 : tl_ok (mp_ok lo hi wt bd tr1 qv.toInt64 n k) zr3 := p173
                    refine lv_if_eq (tgt := 183) hx hb dd_Model_keeps_176 (by decide) (fun h176 => ?_) (fun h176 => ?_)
                    · skip
                      refine lv_iconst (v := 0) hx hb dd_Model_keeps_183 (by decide) ?_
                      exact W.zret (v := (0 : Int32)) hx hb hr (rfl) (fun t ht hW => ⟨⟨(0 : Int32), tr1, rfl, ⟨by first | exact ka_a hwn h169 | exact ka_b p173 h176 | exact ka_c hwn h169 p173 h176, htn⟩, by rw [ht]; exact hP, va_K.moved hW.alike hK, hD⟩, hS.F ht⟩) hS.2.2 dd_Model_keeps_184
                    · skip
                      refine lv_iconst (v := 1) hx hb dd_Model_keeps_179 (by decide) ?_
                      refine lv_goto (tgt := 184) hx hb dd_Model_keeps_180 (by decide) ?_
                      exact W.zret (v := (1 : Int32)) hx hb hr (rfl) (fun t ht hW => ⟨⟨(1 : Int32), tr1, rfl, ⟨by first | exact ka_a hwn h169 | exact ka_b p173 h176 | exact ka_c hwn h169 p173 h176, htn⟩, by rw [ht]; exact hP, va_K.moved hW.alike hK, hD⟩, hS.F ht⟩) hS.2.2 dd_Model_keeps_184
                · skip
                  have h102 : ¬ (n ≤ i) := fun q9 => h102 ((nI_leI (a := n) (b := i) (by omega) (by omega)).mpr q9)
                  refine lv_aload_n hx hb dd_Model_keeps_105 rfl (lv_at hl 0 rfl) ?_
                  refine va_get (D := D) (ci := 7) (v := .ref mt) (C := RR_Model) (T := FF_Model) (N := 30) hx hb htb hi_Model hown hK hP 0 rfl rfl 14 (by decide) hf_37 (fun _ h9 => h9) rfl dd_Model_keeps_106 ?_
                  refine lv_iload hx hb dd_Model_keeps_109 (lv_at hl 7 rfl) ?_
                  refine lv_iload hx hb dd_Model_keeps_111 (lv_at hl 7 rfl) ?_
                  refine lv_iload_n hx hb dd_Model_keeps_113 rfl (lv_at hl 1 rfl) ?_
                  refine lv_iload_n hx hb dd_Model_keeps_114 rfl (lv_at hl 2 rfl) ?_
                  refine lv_iload_n hx hb dd_Model_keeps_115 rfl (lv_at hl 3 rfl) ?_
                  refine lv_iload hx hb dd_Model_keeps_116 (lv_at hl 4 rfl) ?_
                  refine mm_i (wc := []) (wr := [(o, .inr (7, [.int 0, .int (nI n), .ref ml, .ref mm, .ref mw, .ref mc, .int (nI k), .ref mg, .ref md, .int so, .int fo, .ref mb, .long bb, .long bc, .ref mt, .long qv.toInt64, .ref mr, .int (nI rs), .ref mo, .int (nI rc), .ref mx, .ref mp, .ref nk, .ref na, .ref nv, .ref nf, .ref ns, .ref ne, .ref nw, .ref mf])), (ml, .inl (cI, 4, .inl lo)), (mm, .inl (cI, 4, .inl hi)), (mg, .inl (cI, 24, .inl wt)), (md, .inl (cI, 6, .inl bd)), (mt, .inl (cL, 4, .inr (.inl tr1))), (mw, .inl (cZ, 4, .inl wh))]) (va_runS (As := [.int (nI i), .int x0, .int x1, .int x2, .int x3]) (rest := [.int (nI i), .ref mt]) ⟨hx, hb, hml, hown, hts⟩ (cc_Model_pick l D cI cZ cL cQ _ i x0 x1 x2 x3 (by omega)) (mm_cwS 5 hts ml_Model_89 sm_Model_pick ic_Model cd_Model_pick rfl rfl (by decide +kernel) ⟨Nat.le_of_ble_eq_true rfl, Nat.le_of_ble_eq_true rfl⟩) (mm_preS hK hP hD [] (by decide) rfl) rfl rfl hl.1 rfl (lv_room (Nat.le_of_ble_eq_true rfl)) dd_Model_keeps_118 ⟨Nat.zero_le _, Nat.zero_le _⟩) hP hD hS hA [] [0, 1, 2, 3, 4, 5, 6] rfl rfl (by decide) (by decide) (fun zr5 zu6 H locs p118 hP hD hS => ?_)
                  have hP : va_P D kc_all [(o, .inr (7, [.int 0, .int (nI n), .ref ml, .ref mm, .ref mw, .ref mc, .int (nI k), .ref mg, .ref md, .int so, .int fo, .ref mb, .long bb, .long bc, .ref mt, .long qv.toInt64, .ref mr, .int (nI rs), .ref mo, .int (nI rc), .ref mx, .ref mp, .ref nk, .ref na, .ref nv, .ref nf, .ref ns, .ref ne, .ref nw, .ref mf])), (ml, .inl (cI, 4, .inl lo)), (mm, .inl (cI, 4, .inl hi)), (mg, .inl (cI, 24, .inl wt)), (md, .inl (cI, 6, .inl bd)), (mt, .inl (cL, 4, .inr (.inl tr1))), (mw, .inl (cZ, 4, .inl wh))] H := hP
                  have hD : va_D A [(o, .inr (7, [.int 0, .int (nI n), .ref ml, .ref mm, .ref mw, .ref mc, .int (nI k), .ref mg, .ref md, .int so, .int fo, .ref mb, .long bb, .long bc, .ref mt, .long qv.toInt64, .ref mr, .int (nI rs), .ref mo, .int (nI rc), .ref mx, .ref mp, .ref nk, .ref na, .ref nv, .ref nf, .ref ns, .ref ne, .ref nw, .ref mf])), (ml, .inl (cI, 4, .inl lo)), (mm, .inl (cI, 4, .inl hi)), (mg, .inl (cI, 24, .inl wt)), (md, .inl (cI, 6, .inl bd)), (mt, .inl (cL, 4, .inr (.inl tr1))), (mw, .inl (cZ, 4, .inl wh))] := hD
                  have p118 : zr5 = pk_f i x0 x1 x2 x3 := p118
                  refine mm_topi (y := pk_f i x0 x1 x2 x3) (p118) ?_
                  refine lv_i2l (v := (pk_f i x0 x1 x2 x3).toInt64) hx hb dd_Model_keeps_121 rfl ?_
                  refine mm_last hx hb hK hP hD hS 5 2 rfl rfl (i) (rfl) (by omega) (by first | decide | omega) dd_Model_keeps_122 (fun H locs hP hD hS => ?_)
                  have hP : va_P D kc_all [(o, .inr (7, [.int 0, .int (nI n), .ref ml, .ref mm, .ref mw, .ref mc, .int (nI k), .ref mg, .ref md, .int so, .int fo, .ref mb, .long bb, .long bc, .ref mt, .long qv.toInt64, .ref mr, .int (nI rs), .ref mo, .int (nI rc), .ref mx, .ref mp, .ref nk, .ref na, .ref nv, .ref nf, .ref ns, .ref ne, .ref nw, .ref mf])), (ml, .inl (cI, 4, .inl lo)), (mm, .inl (cI, 4, .inl hi)), (mg, .inl (cI, 24, .inl wt)), (md, .inl (cI, 6, .inl bd)), (mt, .inl (cL, 4, .inr (.inl (vp_updL tr1 i ((pk_f i x0 x1 x2 x3).toInt64))))), (mw, .inl (cZ, 4, .inl wh))] H := hP
                  have hD : va_D A [(o, .inr (7, [.int 0, .int (nI n), .ref ml, .ref mm, .ref mw, .ref mc, .int (nI k), .ref mg, .ref md, .int so, .int fo, .ref mb, .long bb, .long bc, .ref mt, .long qv.toInt64, .ref mr, .int (nI rs), .ref mo, .int (nI rc), .ref mx, .ref mp, .ref nk, .ref na, .ref nv, .ref nf, .ref ns, .ref ne, .ref nw, .ref mf])), (ml, .inl (cI, 4, .inl lo)), (mm, .inl (cI, 4, .inl hi)), (mg, .inl (cI, 24, .inl wt)), (md, .inl (cI, 6, .inl bd)), (mt, .inl (cL, 4, .inr (.inl (vp_updL tr1 i ((pk_f i x0 x1 x2 x3).toInt64))))), (mw, .inl (cZ, 4, .inl wh))] := hD
                  refine lv_iload hx hb dd_Model_keeps_123 (lv_at hl 6 rfl) ?_
                  refine lv_if_eq (tgt := 158) hx hb dd_Model_keeps_125 (by decide) (fun h125 => ?_) (fun h125 => ?_)
                  · skip
                    refine lv_iconst (v := 0) hx hb dd_Model_keeps_158 (by decide) ?_
                    refine lv_istore (lv' := [(7, .int (0 : Int32)), (0, .ref o), (1, .int x0), (2, .int x1), (3, .int x2), (4, .int x3), (5, .int qv), (8, .int (nI i))]) hx hb dd_Model_keeps_159 hl (by decide) rfl (fun ls hl => ?_)
                    refine lv_iinc (k := 7) (v := nI (i + 1)) (lv' := [(8, .int (nI (i + 1))), (7, .int (0 : Int32)), (0, .ref o), (1, .int x0), (2, .int x1), (3, .int x2), (4, .int x3), (5, .int qv)]) hx hb dd_Model_keeps_161 hl rfl (nI_1 _) (by decide) rfl (fun ls hl => ?_)
                    refine lv_goto (tgt := 96) hx hb dd_Model_keeps_164 (by decide) ?_
                    exact IH96 (i + 1) (0 : Int32) (vp_updL tr1 i ((pk_f i x0 x1 x2 x3).toInt64)) (by omega) (by omega) (by first | exact kw_a hw h125 | exact kw_b h135 h151 | exact kw_c hw h125 (Or.inl h135) | exact kw_c hw h125 (Or.inr h151)) (ml_s (f := (fun j9 => (pk_f j9 x0 x1 x2 x3).toInt64)) ht1) ls H locs (lv_sub hl [2, 3, 4, 5, 6, 7, 1, 0] rfl) hP hD hS
                  · skip
                    refine lv_aload_n hx hb dd_Model_keeps_128 rfl (lv_at hl 0 rfl) ?_
                    refine va_get (D := D) (ci := 7) (v := .ref mw) (C := RR_Model) (T := FF_Model) (N := 30) hx hb htb hi_Model hown hK hP 0 rfl rfl 4 (by decide) hf_20 (fun _ h9 => h9) rfl dd_Model_keeps_129 ?_
                    refine lv_iload hx hb dd_Model_keeps_132 (lv_at hl 7 rfl) ?_
                    refine mm_zald hx hb hK hP 6 1 rfl rfl (i) (rfl) (by omega) (by first | decide | omega) dd_Model_keeps_134 ?_
                    refine lv_if_eq (tgt := 154) hx hb dd_Model_keeps_135 (by decide) (fun h135 => ?_) (fun h135 => ?_)
                    · skip
                      refine lv_iconst (v := 1) hx hb dd_Model_keeps_154 (by decide) ?_
                      refine lv_goto (tgt := 159) hx hb dd_Model_keeps_155 (by decide) ?_
                      refine lv_istore (lv' := [(7, .int (1 : Int32)), (0, .ref o), (1, .int x0), (2, .int x1), (3, .int x2), (4, .int x3), (5, .int qv), (8, .int (nI i))]) hx hb dd_Model_keeps_159 hl (by decide) rfl (fun ls hl => ?_)
                      refine lv_iinc (k := 7) (v := nI (i + 1)) (lv' := [(8, .int (nI (i + 1))), (7, .int (1 : Int32)), (0, .ref o), (1, .int x0), (2, .int x1), (3, .int x2), (4, .int x3), (5, .int qv)]) hx hb dd_Model_keeps_161 hl rfl (nI_1 _) (by decide) rfl (fun ls hl => ?_)
                      refine lv_goto (tgt := 96) hx hb dd_Model_keeps_164 (by decide) ?_
                      exact IH96 (i + 1) (1 : Int32) (vp_updL tr1 i ((pk_f i x0 x1 x2 x3).toInt64)) (by omega) (by omega) (by first | exact kw_a hw h125 | exact kw_b h135 h151 | exact kw_c hw h125 (Or.inl h135) | exact kw_c hw h125 (Or.inr h151)) (ml_s (f := (fun j9 => (pk_f j9 x0 x1 x2 x3).toInt64)) ht1) ls H locs (lv_sub hl [2, 3, 4, 5, 6, 7, 1, 0] rfl) hP hD hS
                    · skip
                      refine lv_aload_n hx hb dd_Model_keeps_138 rfl (lv_at hl 0 rfl) ?_
                      refine va_get (D := D) (ci := 7) (v := .ref mt) (C := RR_Model) (T := FF_Model) (N := 30) hx hb htb hi_Model hown hK hP 0 rfl rfl 14 (by decide) hf_37 (fun _ h9 => h9) rfl dd_Model_keeps_139 ?_
                      refine lv_iload hx hb dd_Model_keeps_142 (lv_at hl 7 rfl) ?_
                      refine mm_lald hx hb hK hP 5 2 rfl rfl (i) (rfl) (by omega) (by first | decide | omega) dd_Model_keeps_144 ?_
                      refine mm_topl (y := (pk_f i x0 x1 x2 x3).toInt64) (pk_uLs) ?_
                      refine lv_iload hx hb dd_Model_keeps_145 (lv_at hl 5 rfl) ?_
                      refine lv_i2l (v := qv.toInt64) hx hb dd_Model_keeps_147 rfl ?_
                      refine lv_lrem hx hb dd_Model_keeps_148 (l6_q hok.1) ?_
                      refine lv_lconst (v := 0) hx hb dd_Model_keeps_149 (by decide) ?_
                      refine W.lcmp hx hb dd_Model_keeps_150 ?_
                      refine lv_if_ne (tgt := 158) hx hb dd_Model_keeps_151 (by decide) (fun h151 => ?_) (fun h151 => ?_)
                      · skip
                        rw [lg_cmp_eq (((pk_f i x0 x1 x2 x3).toInt64) - ((pk_f i x0 x1 x2 x3).toInt64) / qv.toInt64 * qv.toInt64) (0 : Int64)] at h151
                        refine lv_iconst (v := 0) hx hb dd_Model_keeps_158 (by decide) ?_
                        refine lv_istore (lv' := [(7, .int (0 : Int32)), (0, .ref o), (1, .int x0), (2, .int x1), (3, .int x2), (4, .int x3), (5, .int qv), (8, .int (nI i))]) hx hb dd_Model_keeps_159 hl (by decide) rfl (fun ls hl => ?_)
                        refine lv_iinc (k := 7) (v := nI (i + 1)) (lv' := [(8, .int (nI (i + 1))), (7, .int (0 : Int32)), (0, .ref o), (1, .int x0), (2, .int x1), (3, .int x2), (4, .int x3), (5, .int qv)]) hx hb dd_Model_keeps_161 hl rfl (nI_1 _) (by decide) rfl (fun ls hl => ?_)
                        refine lv_goto (tgt := 96) hx hb dd_Model_keeps_164 (by decide) ?_
                        exact IH96 (i + 1) (0 : Int32) (vp_updL tr1 i ((pk_f i x0 x1 x2 x3).toInt64)) (by omega) (by omega) (by first | exact kw_a hw h125 | exact kw_b h135 h151 | exact kw_c hw h125 (Or.inl h135) | exact kw_c hw h125 (Or.inr h151)) (ml_s (f := (fun j9 => (pk_f j9 x0 x1 x2 x3).toInt64)) ht1) ls H locs (lv_sub hl [2, 3, 4, 5, 6, 7, 1, 0] rfl) hP hD hS
                      · skip
                        rw [lg_cmp_eq (((pk_f i x0 x1 x2 x3).toInt64) - ((pk_f i x0 x1 x2 x3).toInt64) / qv.toInt64 * qv.toInt64) (0 : Int64)] at h151
                        refine lv_iconst (v := 1) hx hb dd_Model_keeps_154 (by decide) ?_
                        refine lv_goto (tgt := 159) hx hb dd_Model_keeps_155 (by decide) ?_
                        refine lv_istore (lv' := [(7, .int (1 : Int32)), (0, .ref o), (1, .int x0), (2, .int x1), (3, .int x2), (4, .int x3), (5, .int qv), (8, .int (nI i))]) hx hb dd_Model_keeps_159 hl (by decide) rfl (fun ls hl => ?_)
                        refine lv_iinc (k := 7) (v := nI (i + 1)) (lv' := [(8, .int (nI (i + 1))), (7, .int (1 : Int32)), (0, .ref o), (1, .int x0), (2, .int x1), (3, .int x2), (4, .int x3), (5, .int qv)]) hx hb dd_Model_keeps_161 hl rfl (nI_1 _) (by decide) rfl (fun ls hl => ?_)
                        refine lv_goto (tgt := 96) hx hb dd_Model_keeps_164 (by decide) ?_
                        exact IH96 (i + 1) (1 : Int32) (vp_updL tr1 i ((pk_f i x0 x1 x2 x3).toInt64)) (by omega) (by omega) (by first | exact kw_a hw h125 | exact kw_b h135 h151 | exact kw_c hw h125 (Or.inl h135) | exact kw_c hw h125 (Or.inr h151)) (ml_s (f := (fun j9 => (pk_f j9 x0 x1 x2 x3).toInt64)) ht1) ls H locs (lv_sub hl [2, 3, 4, 5, 6, 7, 1, 0] rfl) hP hD hS
            exact J96 _ 0 (1 : Int32) tr (Nat.lt_succ_self _) (by omega) (kw_0) (ml_0) ls H locs (lv_sub hl [2, 3, 4, 5, 6, 7, 1, 0] rfl) hP hD hS
          · skip
            have h78 : ¬ (0 ≤ 0) := fun q9 => h78 ((nI_leI (a := 0) (b := 0) (by omega) (by omega)).mpr q9)
            omega
      · skip
        have h17 : ¬ (4 ≤ j) := fun q9 => h17 ((nI_leI (a := 4) (b := j) (by omega) (by omega)).mpr q9)
        refine lv_iload hx hb dd_Model_keeps_20 (lv_at hl 6 rfl) ?_
        refine lv_if_eq (tgt := 51) hx hb dd_Model_keeps_22 (by decide) (fun h22 => ?_) (fun h22 => ?_)
        · skip
          refine lv_iconst (v := 0) hx hb dd_Model_keeps_51 (by decide) ?_
          refine lv_istore (lv' := [(6, .int (0 : Int32)), (0, .ref o), (1, .int x0), (2, .int x1), (3, .int x2), (4, .int x3), (5, .int qv), (7, .int (nI j))]) hx hb dd_Model_keeps_52 hl (by decide) rfl (fun ls hl => ?_)
          refine lv_iinc (k := 7) (v := nI (j + 1)) (lv' := [(7, .int (nI (j + 1))), (6, .int (0 : Int32)), (0, .ref o), (1, .int x0), (2, .int x1), (3, .int x2), (4, .int x3), (5, .int qv)]) hx hb dd_Model_keeps_54 hl rfl (nI_1 _) (by decide) rfl (fun ls hl => ?_)
          refine lv_goto (tgt := 14) hx hb dd_Model_keeps_57 (by decide) ?_
          exact IH14 (j + 1) (0 : Int32) (by omega) (by omega) (by first | exact kq_a hg h22 | exact kq_b p41 h44 | exact kq_c hg h22 p41 h44) ls H locs (lv_sub hl [2, 3, 4, 5, 6, 7, 1, 0] rfl) hP hD hS
        · skip
          refine lv_iload hx hb dd_Model_keeps_25 (lv_at hl 7 rfl) ?_
          refine lv_iload_n hx hb dd_Model_keeps_27 rfl (lv_at hl 1 rfl) ?_
          refine lv_iload_n hx hb dd_Model_keeps_28 rfl (lv_at hl 2 rfl) ?_
          refine lv_iload_n hx hb dd_Model_keeps_29 rfl (lv_at hl 3 rfl) ?_
          refine lv_iload hx hb dd_Model_keeps_30 (lv_at hl 4 rfl) ?_
          refine mm_i (wc := []) (wr := [(o, .inr (7, [.int thr, .int (nI n), .ref ml, .ref mm, .ref mw, .ref mc, .int (nI k), .ref mg, .ref md, .int so, .int fo, .ref mb, .long bb, .long bc, .ref mt, .long be, .ref mr, .int (nI rs), .ref mo, .int (nI rc), .ref mx, .ref mp, .ref nk, .ref na, .ref nv, .ref nf, .ref ns, .ref ne, .ref nw, .ref mf])), (ml, .inl (cI, 4, .inl lo)), (mm, .inl (cI, 4, .inl hi)), (mg, .inl (cI, 24, .inl wt)), (md, .inl (cI, 6, .inl bd)), (mt, .inl (cL, 4, .inr (.inl tr))), (mw, .inl (cZ, 4, .inl wh))]) (va_runS (As := [.int (nI j), .int x0, .int x1, .int x2, .int x3]) (rest := []) ⟨hx, hb, hml, hown, hts⟩ (cc_Model_pick l D cI cZ cL cQ _ j x0 x1 x2 x3 (by omega)) (mm_cwS 5 hts ml_Model_89 sm_Model_pick ic_Model cd_Model_pick rfl rfl (by decide +kernel) ⟨Nat.le_of_ble_eq_true rfl, Nat.le_of_ble_eq_true rfl⟩) (mm_preS hK hP hD [] (by decide) rfl) rfl rfl hl.1 rfl (lv_room (Nat.le_of_ble_eq_true rfl)) dd_Model_keeps_32 ⟨Nat.zero_le _, Nat.zero_le _⟩) hP hD hS hA [] [0, 1, 2, 3, 4, 5, 6] rfl rfl (by decide) (by decide) (fun zr7 zu8 H locs p32 hP hD hS => ?_)
          have hP : va_P D kc_all [(o, .inr (7, [.int thr, .int (nI n), .ref ml, .ref mm, .ref mw, .ref mc, .int (nI k), .ref mg, .ref md, .int so, .int fo, .ref mb, .long bb, .long bc, .ref mt, .long be, .ref mr, .int (nI rs), .ref mo, .int (nI rc), .ref mx, .ref mp, .ref nk, .ref na, .ref nv, .ref nf, .ref ns, .ref ne, .ref nw, .ref mf])), (ml, .inl (cI, 4, .inl lo)), (mm, .inl (cI, 4, .inl hi)), (mg, .inl (cI, 24, .inl wt)), (md, .inl (cI, 6, .inl bd)), (mt, .inl (cL, 4, .inr (.inl tr))), (mw, .inl (cZ, 4, .inl wh))] H := hP
          have hD : va_D A [(o, .inr (7, [.int thr, .int (nI n), .ref ml, .ref mm, .ref mw, .ref mc, .int (nI k), .ref mg, .ref md, .int so, .int fo, .ref mb, .long bb, .long bc, .ref mt, .long be, .ref mr, .int (nI rs), .ref mo, .int (nI rc), .ref mx, .ref mp, .ref nk, .ref na, .ref nv, .ref nf, .ref ns, .ref ne, .ref nw, .ref mf])), (ml, .inl (cI, 4, .inl lo)), (mm, .inl (cI, 4, .inl hi)), (mg, .inl (cI, 24, .inl wt)), (md, .inl (cI, 6, .inl bd)), (mt, .inl (cL, 4, .inr (.inl tr))), (mw, .inl (cZ, 4, .inl wh))] := hD
          have p32 : zr7 = pk_f j x0 x1 x2 x3 := p32
          refine mm_topi (y := pk_f j x0 x1 x2 x3) (p32) ?_
          refine lv_sipush (v := (-20000)) hx hb dd_Model_keeps_35 (by decide) ?_
          refine lv_sipush (v := 20000) hx hb dd_Model_keeps_38 (by decide) ?_
          refine mm_i (wc := []) (wr := [(o, .inr (7, [.int thr, .int (nI n), .ref ml, .ref mm, .ref mw, .ref mc, .int (nI k), .ref mg, .ref md, .int so, .int fo, .ref mb, .long bb, .long bc, .ref mt, .long be, .ref mr, .int (nI rs), .ref mo, .int (nI rc), .ref mx, .ref mp, .ref nk, .ref na, .ref nv, .ref nf, .ref ns, .ref ne, .ref nw, .ref mf])), (ml, .inl (cI, 4, .inl lo)), (mm, .inl (cI, 4, .inl hi)), (mg, .inl (cI, 24, .inl wt)), (md, .inl (cI, 6, .inl bd)), (mt, .inl (cL, 4, .inr (.inl tr))), (mw, .inl (cZ, 4, .inl wh))]) (va_runS (As := [.int (pk_f j x0 x1 x2 x3), .int (-20000 : Int32), .int (20000 : Int32)]) (rest := []) ⟨hx, hb, hml, hown, hts⟩ (cc_Model_isIn l D cI cZ cL cQ _ (pk_f j x0 x1 x2 x3) (-20000 : Int32) (20000 : Int32) ) (mm_cwS 3 hts ml_Model_79 sm_Model_isIn ic_Model cd_Model_isIn rfl rfl (by decide +kernel) ⟨Nat.le_of_ble_eq_true rfl, Nat.le_of_ble_eq_true rfl⟩) (mm_preS hK hP hD [] (by decide) rfl) rfl rfl hl.1 rfl (lv_room (Nat.le_of_ble_eq_true rfl)) dd_Model_keeps_41 ⟨Nat.zero_le _, Nat.zero_le _⟩) hP hD hS hA [] [0, 1, 2, 3, 4, 5, 6] rfl rfl (by decide) (by decide) (fun zr9 zu10 H locs p41 hP hD hS => ?_)
          have hP : va_P D kc_all [(o, .inr (7, [.int thr, .int (nI n), .ref ml, .ref mm, .ref mw, .ref mc, .int (nI k), .ref mg, .ref md, .int so, .int fo, .ref mb, .long bb, .long bc, .ref mt, .long be, .ref mr, .int (nI rs), .ref mo, .int (nI rc), .ref mx, .ref mp, .ref nk, .ref na, .ref nv, .ref nf, .ref ns, .ref ne, .ref nw, .ref mf])), (ml, .inl (cI, 4, .inl lo)), (mm, .inl (cI, 4, .inl hi)), (mg, .inl (cI, 24, .inl wt)), (md, .inl (cI, 6, .inl bd)), (mt, .inl (cL, 4, .inr (.inl tr))), (mw, .inl (cZ, 4, .inl wh))] H := hP
          have hD : va_D A [(o, .inr (7, [.int thr, .int (nI n), .ref ml, .ref mm, .ref mw, .ref mc, .int (nI k), .ref mg, .ref md, .int so, .int fo, .ref mb, .long bb, .long bc, .ref mt, .long be, .ref mr, .int (nI rs), .ref mo, .int (nI rc), .ref mx, .ref mp, .ref nk, .ref na, .ref nv, .ref nf, .ref ns, .ref ne, .ref nw, .ref mf])), (ml, .inl (cI, 4, .inl lo)), (mm, .inl (cI, 4, .inl hi)), (mg, .inl (cI, 24, .inl wt)), (md, .inl (cI, 6, .inl bd)), (mt, .inl (cL, 4, .inr (.inl tr))), (mw, .inl (cZ, 4, .inl wh))] := hD
          have p41 : tl_ok (in_ok (pk_f j x0 x1 x2 x3) (-20000 : Int32) (20000 : Int32)) zr9 := p41
          refine lv_if_eq (tgt := 51) hx hb dd_Model_keeps_44 (by decide) (fun h44 => ?_) (fun h44 => ?_)
          · skip
            refine lv_iconst (v := 0) hx hb dd_Model_keeps_51 (by decide) ?_
            refine lv_istore (lv' := [(6, .int (0 : Int32)), (0, .ref o), (1, .int x0), (2, .int x1), (3, .int x2), (4, .int x3), (5, .int qv), (7, .int (nI j))]) hx hb dd_Model_keeps_52 hl (by decide) rfl (fun ls hl => ?_)
            refine lv_iinc (k := 7) (v := nI (j + 1)) (lv' := [(7, .int (nI (j + 1))), (6, .int (0 : Int32)), (0, .ref o), (1, .int x0), (2, .int x1), (3, .int x2), (4, .int x3), (5, .int qv)]) hx hb dd_Model_keeps_54 hl rfl (nI_1 _) (by decide) rfl (fun ls hl => ?_)
            refine lv_goto (tgt := 14) hx hb dd_Model_keeps_57 (by decide) ?_
            exact IH14 (j + 1) (0 : Int32) (by omega) (by omega) (by first | exact kq_a hg h22 | exact kq_b p41 h44 | exact kq_c hg h22 p41 h44) ls H locs (lv_sub hl [2, 3, 4, 5, 6, 7, 1, 0] rfl) hP hD hS
          · skip
            refine lv_iconst (v := 1) hx hb dd_Model_keeps_47 (by decide) ?_
            refine lv_goto (tgt := 52) hx hb dd_Model_keeps_48 (by decide) ?_
            refine lv_istore (lv' := [(6, .int (1 : Int32)), (0, .ref o), (1, .int x0), (2, .int x1), (3, .int x2), (4, .int x3), (5, .int qv), (7, .int (nI j))]) hx hb dd_Model_keeps_52 hl (by decide) rfl (fun ls hl => ?_)
            refine lv_iinc (k := 7) (v := nI (j + 1)) (lv' := [(7, .int (nI (j + 1))), (6, .int (1 : Int32)), (0, .ref o), (1, .int x0), (2, .int x1), (3, .int x2), (4, .int x3), (5, .int qv)]) hx hb dd_Model_keeps_54 hl rfl (nI_1 _) (by decide) rfl (fun ls hl => ?_)
            refine lv_goto (tgt := 14) hx hb dd_Model_keeps_57 (by decide) ?_
            exact IH14 (j + 1) (1 : Int32) (by omega) (by omega) (by first | exact kq_a hg h22 | exact kq_b p41 h44 | exact kq_c hg h22 p41 h44) ls H locs (lv_sub hl [2, 3, 4, 5, 6, 7, 1, 0] rfl) hP hD hS
  exact J14 _ 0 zr1 (Nat.lt_succ_self _) (by omega) (kq_0 p6) ls H locs (lv_sub hl [2, 3, 4, 5, 6, 7, 1, 0] rfl) hP hD hS
abbrev qq_Model_keepsN (D : va_G) (cI cZ cL cQ : ClassId) (o : Nat) (ml : Nat) (mm : Nat) (mw : Nat) (mc : Nat) (mg : Nat) (md : Nat) (mb : Nat) (mt : Nat) (mr : Nat) (mo : Nat) (mx : Nat) (mp : Nat) (nk : Nat) (na : Nat) (nv : Nat) (nf : Nat) (ns : Nat) (ne : Nat) (nw : Nat) (mf : Nat) (thr : Int32) (n : Nat) (k : Nat) (so : Int32) (fo : Int32) (bb : Int64) (bc : Int64) (be : Int64) (rs : Nat) (rc : Nat) (x0 : Int32) (x1 : Int32) (x2 : Int32) (x3 : Int32) (qv : Int32) (A : Nat → Prop) : Array Value → State → Outcome → State → Prop := va_Qi (fun (r : Int32) (u : Unit) => True) (fun (u : Unit) t => mm_B D kc_all [(cI, .int), (cZ, .boolean), (cL, .long), (cQ, .array .int)] A [(o, .inr (7, [.int 1, .int (nI n), .ref ml, .ref mm, .ref mw, .ref mc, .int (nI k), .ref mg, .ref md, .int so, .int fo, .ref mb, .long bb, .long bc, .ref mt, .long be, .ref mr, .int (nI rs), .ref mo, .int (nI rc), .ref mx, .ref mp, .ref nk, .ref na, .ref nv, .ref nf, .ref ns, .ref ne, .ref nw, .ref mf]))] t) A
set_option maxHeartbeats 4000000 in
set_option maxRecDepth 100000 in
theorem cc_Model_keepsN (l : Launch) (D : va_G) (cI cZ cL cQ : ClassId) (sz : Nat) (o : Nat) (ml : Nat) (mm : Nat) (mw : Nat) (mc : Nat) (mg : Nat) (md : Nat) (mb : Nat) (mt : Nat) (mr : Nat) (mo : Nat) (mx : Nat) (mp : Nat) (nk : Nat) (na : Nat) (nv : Nat) (nf : Nat) (ns : Nat) (ne : Nat) (nw : Nat) (mf : Nat) (thr : Int32) (n : Nat) (k : Nat) (so : Int32) (fo : Int32) (bb : Int64) (bc : Int64) (be : Int64) (rs : Nat) (rc : Nat) (x0 : Int32) (x1 : Int32) (x2 : Int32) (x3 : Int32) (qv : Int32) (hno : ¬ kq_ok x0 x1 x2 x3 qv 4) : Met l yy_Model_keeps ww_Model_keeps ({ frames := 1, cells := 0, slots := 0, locals := 24 } : Room) (mm_Pc D kc_all [(cI, .int), (cZ, .boolean), (cL, .long), (cQ, .array .int)] sz [(o, .inr (7, [.int thr, .int (nI n), .ref ml, .ref mm, .ref mw, .ref mc, .int (nI k), .ref mg, .ref md, .int so, .int fo, .ref mb, .long bb, .long bc, .ref mt, .long be, .ref mr, .int (nI rs), .ref mo, .int (nI rc), .ref mx, .ref mp, .ref nk, .ref na, .ref nv, .ref nf, .ref ns, .ref ne, .ref nw, .ref mf]))] [.ref o, .int x0, .int x1, .int x2, .int x3, .int qv]) (qq_Model_keepsN D cI cZ cL cQ o ml mm mw mc mg md mb mt mr mo mx mp nk na nv nf ns ne nw mf thr n k so fo bb bc be rs rc x0 x1 x2 x3 qv (va_A [(o, .inr (7, [.int thr, .int (nI n), .ref ml, .ref mm, .ref mw, .ref mc, .int (nI k), .ref mg, .ref md, .int so, .int fo, .ref mb, .long bb, .long bc, .ref mt, .long be, .ref mr, .int (nI rs), .ref mo, .int (nI rc), .ref mx, .ref mp, .ref nk, .ref na, .ref nv, .ref nf, .ref ns, .ref ne, .ref nw, .ref mf]))] sz)) 0 0 (va_A [(o, .inr (7, [.int thr, .int (nI n), .ref ml, .ref mm, .ref mw, .ref mc, .int (nI k), .ref mg, .ref md, .int so, .int fo, .ref mb, .long bb, .long bc, .ref mt, .long be, .ref mr, .int (nI rs), .ref mo, .int (nI rc), .ref mx, .ref mp, .ref nk, .ref na, .ref nv, .ref nf, .ref ns, .ref ne, .ref nw, .ref mf]))] sz) := by
  refine Met.ofW (cc := bb_Model_keeps) (maxL := 9) (ret := (some .boolean)) (by decide) rfl ?_
  intro p e s m args below meth c s₁ B hml hv
  obtain ⟨rfl, hsz, hP, hK, hD0⟩ := hv
  have hx := B.exec
  have hb := B.bytes
  have hr := B.returns
  have hts := atoms_spec (ws := ww_Model_keeps) B.pre
  have hown : s.vm.findClass RR_Model = some m.cls := findClass_of_methodNamed B.named
  have hlocks := B.notSynchronized
  subst hsz
  have hD := hD0.self (sz := s.heap.size)
  generalize hAe : va_A [(o, .inr (7, [.int thr, .int (nI n), .ref ml, .ref mm, .ref mw, .ref mc, .int (nI k), .ref mg, .ref md, .int so, .int fo, .ref mb, .long bb, .long bc, .ref mt, .long be, .ref mr, .int (nI rs), .ref mo, .int (nI rc), .ref mx, .ref mp, .ref nk, .ref na, .ref nv, .ref nf, .ref ns, .ref ne, .ref nw, .ref mf]))] s.heap.size = A at hD ⊢
  have hA : ∀ q : Nat, s.heap.size ≤ q → A q := fun q h => by rw [← hAe]; exact Or.inr h
  have hS : va_S A s.heap s.heap [] := va_S.rf
  have hP : va_P D kc_all [(o, .inr (7, [.int thr, .int (nI n), .ref ml, .ref mm, .ref mw, .ref mc, .int (nI k), .ref mg, .ref md, .int so, .int fo, .ref mb, .long bb, .long bc, .ref mt, .long be, .ref mr, .int (nI rs), .ref mo, .int (nI rc), .ref mx, .ref mp, .ref nk, .ref na, .ref nv, .ref nf, .ref ns, .ref ne, .ref nw, .ref mf]))] s.heap := hP
  have hl := lv_entry ([.ref o, .int x0, .int x1, .int x2, .int x3, .int qv]) (n := 9) (Nat.le_of_ble_eq_true rfl)
  rw [lg_entry_eq]
  generalize (lg_sl ([.ref o, .int x0, .int x1, .int x2, .int x3, .int qv]) ++ List.replicate (9 - (lg_sl ([.ref o, .int x0, .int x1, .int x2, .int x3, .int qv])).length) Slot.unset).toArray = ls at hl ⊢
  have hl : lv_has ls 9 [(0, .ref o), (1, .int x0), (2, .int x1), (3, .int x2), (4, .int x3), (5, .int qv)] := hl
  have htb : ∀ w ∈ tb_all, w.before ([.ref o, .int x0, .int x1, .int x2, .int x3, .int qv]).toArray s = true := fun w h => hts w (List.mem_cons_of_mem _ h)
  have hf_7 := htb _ fl_Model_7
  have hf_20 := htb _ fl_Model_20
  have hf_37 := htb _ fl_Model_37
  have hf_76 := htb _ fl_Model_76
  have hf_93 := htb _ fl_Model_93
  refine lv_iload hx hb dd_Model_keeps_0 (lv_at hl 5 rfl) ?_
  refine lv_iconst (v := 1) hx hb dd_Model_keeps_2 (by decide) ?_
  refine lv_sipush (v := 1000) hx hb dd_Model_keeps_3 (by decide) ?_
  refine mm_i (wc := []) (wr := [(o, .inr (7, [.int thr, .int (nI n), .ref ml, .ref mm, .ref mw, .ref mc, .int (nI k), .ref mg, .ref md, .int so, .int fo, .ref mb, .long bb, .long bc, .ref mt, .long be, .ref mr, .int (nI rs), .ref mo, .int (nI rc), .ref mx, .ref mp, .ref nk, .ref na, .ref nv, .ref nf, .ref ns, .ref ne, .ref nw, .ref mf]))]) (va_runS (As := [.int qv, .int (1 : Int32), .int (1000 : Int32)]) (rest := []) ⟨hx, hb, hml, hown, hts⟩ (cc_Model_isIn l D cI cZ cL cQ _ qv (1 : Int32) (1000 : Int32) ) (mm_cwS 3 hts ml_Model_79 sm_Model_isIn ic_Model cd_Model_isIn rfl rfl (by decide +kernel) ⟨Nat.le_of_ble_eq_true rfl, Nat.le_of_ble_eq_true rfl⟩) (mm_preS hK hP hD [] (by decide) rfl) rfl rfl hl.1 rfl (lv_room (Nat.le_of_ble_eq_true rfl)) dd_Model_keeps_6 ⟨Nat.zero_le _, Nat.zero_le _⟩) hP hD hS hA [] [0] rfl rfl (by decide) (by decide) (fun zr1 zu2 H locs p6 hP hD hS => ?_)
  have hP : va_P D kc_all [(o, .inr (7, [.int thr, .int (nI n), .ref ml, .ref mm, .ref mw, .ref mc, .int (nI k), .ref mg, .ref md, .int so, .int fo, .ref mb, .long bb, .long bc, .ref mt, .long be, .ref mr, .int (nI rs), .ref mo, .int (nI rc), .ref mx, .ref mp, .ref nk, .ref na, .ref nv, .ref nf, .ref ns, .ref ne, .ref nw, .ref mf]))] H := hP
  have hD : va_D A [(o, .inr (7, [.int thr, .int (nI n), .ref ml, .ref mm, .ref mw, .ref mc, .int (nI k), .ref mg, .ref md, .int so, .int fo, .ref mb, .long bb, .long bc, .ref mt, .long be, .ref mr, .int (nI rs), .ref mo, .int (nI rc), .ref mx, .ref mp, .ref nk, .ref na, .ref nv, .ref nf, .ref ns, .ref ne, .ref nw, .ref mf]))] := hD
  have p6 : tl_ok (in_ok qv (1 : Int32) (1000 : Int32)) zr1 := p6
  refine lv_istore (lv' := [(6, .int zr1), (0, .ref o), (1, .int x0), (2, .int x1), (3, .int x2), (4, .int x3), (5, .int qv)]) hx hb dd_Model_keeps_9 hl (by decide) rfl (fun ls hl => ?_)
  refine lv_iconst (v := 0) hx hb dd_Model_keeps_11 (by decide) ?_
  refine lv_istore (lv' := [(7, .int (0 : Int32)), (6, .int zr1), (0, .ref o), (1, .int x0), (2, .int x1), (3, .int x2), (4, .int x3), (5, .int qv)]) hx hb dd_Model_keeps_12 hl (by decide) rfl (fun ls hl => ?_)
  have J14 : ∀ (N : Nat) (j : Nat) (g9 : Int32), (4 - j) < N → ∀ (hj : j ≤ 4) (hg : tl_ok (kq_ok x0 x1 x2 x3 qv j) g9), ∀ (ls : Array Slot) (H : Heap) (locs : List Loc), lv_has ls 9 [(0, .ref o), (1, .int x0), (2, .int x1), (3, .int x2), (4, .int x3), (5, .int qv), (6, .int g9), (7, .int (nI j))] → va_P D kc_all [(o, .inr (7, [.int thr, .int (nI n), .ref ml, .ref mm, .ref mw, .ref mc, .int (nI k), .ref mg, .ref md, .int so, .int fo, .ref mb, .long bb, .long bc, .ref mt, .long be, .ref mr, .int (nI rs), .ref mo, .int (nI rc), .ref mx, .ref mp, .ref nk, .ref na, .ref nv, .ref nf, .ref ns, .ref ne, .ref nw, .ref mf]))] H → va_D A [(o, .inr (7, [.int thr, .int (nI n), .ref ml, .ref mm, .ref mw, .ref mc, .int (nI k), .ref mg, .ref md, .int so, .int fo, .ref mb, .long bb, .long bc, .ref mt, .long be, .ref mr, .int (nI rs), .ref mo, .int (nI rc), .ref mx, .ref mp, .ref nk, .ref na, .ref nv, .ref nf, .ref ns, .ref ne, .ref nw, .ref mf]))] → va_S A s.heap H locs → W p l e (headSpec ww_Model_keeps ({ frames := 1, cells := 0, slots := 0, locals := 24 } : Room)).room s m ([.ref o, .int x0, .int x1, .int x2, .int x3, .int qv]).toArray below meth c H locs 0 0 (MQ below (qq_Model_keepsN D cI cZ cL cQ o ml mm mw mc mg md mb mt mr mo mx mp nk na nv nf ns ne nw mf thr n k so fo bb bc be rs rc x0 x1 x2 x3 qv A) ([.ref o, .int x0, .int x1, .int x2, .int x3, .int qv]).toArray s 0 0 A) (F0 m 14 ls []) := by
    intro N
    induction N with
    | zero => intro j g9 hN9; exact absurd hN9 (Nat.not_lt_zero _)
    | succ N IH14 =>
      intro j g9 hN9 hj hg ls H locs hl hP hD hS
      refine lv_iload hx hb dd_Model_keeps_14 (lv_at hl 7 rfl) ?_
      refine lv_iconst (v := 4) hx hb dd_Model_keeps_16 (by decide) ?_
      refine lv_icmp_ge (tgt := 60) hx hb dd_Model_keeps_17 (by decide) (fun h17 => ?_) (fun h17 => ?_)
      · skip
        have h17 : 4 ≤ j := (nI_leI (a := 4) (b := j) (by omega) (by omega)).mp h17
        have hg4 : tl_ok (kq_ok x0 x1 x2 x3 qv 4) g9 := by rw [show 4 = j by omega]; exact hg
        refine lv_aload_n hx hb dd_Model_keeps_60 rfl (lv_at hl 0 rfl) ?_
        refine lv_iload hx hb dd_Model_keeps_61 (lv_at hl 6 rfl) ?_
        refine lv_if_eq (tgt := 70) hx hb dd_Model_keeps_63 (by decide) (fun h63 => ?_) (fun h63 => ?_)
        · skip
          refine lv_iconst (v := 1) hx hb dd_Model_keeps_70 (by decide) ?_
          refine va_put (D := D) (ci := 7) (v := .int (1 : Int32)) (ty := .int) (C := RR_Model) (T := FF_Model) (N := 30) hx hb htb hi_Model tt_Model tt_Model_ok nn_Model hown hK hP hD hS 0 rfl rfl 0 (by decide) hf_76 (fun _ h9 => h9) rfl (by decide +kernel) (rfl) (rfl) (Nat.le_of_ble_eq_true rfl) dd_Model_keeps_71 (fun H locs hP hD hS => ?_)
          have hP : va_P D kc_all [(o, .inr (7, [.int (1 : Int32), .int (nI n), .ref ml, .ref mm, .ref mw, .ref mc, .int (nI k), .ref mg, .ref md, .int so, .int fo, .ref mb, .long bb, .long bc, .ref mt, .long be, .ref mr, .int (nI rs), .ref mo, .int (nI rc), .ref mx, .ref mp, .ref nk, .ref na, .ref nv, .ref nf, .ref ns, .ref ne, .ref nw, .ref mf]))] H := hP
          have hD : va_D A [(o, .inr (7, [.int (1 : Int32), .int (nI n), .ref ml, .ref mm, .ref mw, .ref mc, .int (nI k), .ref mg, .ref md, .int so, .int fo, .ref mb, .long bb, .long bc, .ref mt, .long be, .ref mr, .int (nI rs), .ref mo, .int (nI rc), .ref mx, .ref mp, .ref nk, .ref na, .ref nv, .ref nf, .ref ns, .ref ne, .ref nw, .ref mf]))] := hD
          refine lv_aload_n hx hb dd_Model_keeps_74 rfl (lv_at hl 0 rfl) ?_
          refine va_get (D := D) (ci := 7) (v := .int (1 : Int32)) (C := RR_Model) (T := FF_Model) (N := 30) hx hb htb hi_Model hown hK hP 0 rfl rfl 0 (by decide) hf_76 (fun _ h9 => h9) rfl dd_Model_keeps_75 ?_
          refine lv_if_le (tgt := 83) hx hb dd_Model_keeps_78 (by decide) (fun h78 => ?_) (fun h78 => ?_)
          · skip
            have h78 : 1 ≤ 0 := (nI_leI (a := 1) (b := 0) (by omega) (by omega)).mp h78
            omega
          · skip
            have h78 : ¬ (1 ≤ 0) := fun q9 => h78 ((nI_leI (a := 1) (b := 0) (by omega) (by omega)).mpr q9)
            refine lv_iconst (v := 0) hx hb dd_Model_keeps_81 (by decide) ?_
            exact W.zret (v := (0 : Int32)) hx hb hr (rfl) (fun t ht hW => ⟨⟨(0 : Int32), (), rfl, trivial, by rw [ht]; exact hP, va_K.moved hW.alike hK, hD⟩, hS.F ht⟩) hS.2.2 dd_Model_keeps_82
        · skip
          exact absurd (tl_1 hg4 h63) hno
      · skip
        have h17 : ¬ (4 ≤ j) := fun q9 => h17 ((nI_leI (a := 4) (b := j) (by omega) (by omega)).mpr q9)
        refine lv_iload hx hb dd_Model_keeps_20 (lv_at hl 6 rfl) ?_
        refine lv_if_eq (tgt := 51) hx hb dd_Model_keeps_22 (by decide) (fun h22 => ?_) (fun h22 => ?_)
        · skip
          refine lv_iconst (v := 0) hx hb dd_Model_keeps_51 (by decide) ?_
          refine lv_istore (lv' := [(6, .int (0 : Int32)), (0, .ref o), (1, .int x0), (2, .int x1), (3, .int x2), (4, .int x3), (5, .int qv), (7, .int (nI j))]) hx hb dd_Model_keeps_52 hl (by decide) rfl (fun ls hl => ?_)
          refine lv_iinc (k := 7) (v := nI (j + 1)) (lv' := [(7, .int (nI (j + 1))), (6, .int (0 : Int32)), (0, .ref o), (1, .int x0), (2, .int x1), (3, .int x2), (4, .int x3), (5, .int qv)]) hx hb dd_Model_keeps_54 hl rfl (nI_1 _) (by decide) rfl (fun ls hl => ?_)
          refine lv_goto (tgt := 14) hx hb dd_Model_keeps_57 (by decide) ?_
          exact IH14 (j + 1) (0 : Int32) (by omega) (by omega) (by first | exact kq_a hg h22 | exact kq_b p41 h44 | exact kq_c hg h22 p41 h44) ls H locs (lv_sub hl [2, 3, 4, 5, 6, 7, 1, 0] rfl) hP hD hS
        · skip
          refine lv_iload hx hb dd_Model_keeps_25 (lv_at hl 7 rfl) ?_
          refine lv_iload_n hx hb dd_Model_keeps_27 rfl (lv_at hl 1 rfl) ?_
          refine lv_iload_n hx hb dd_Model_keeps_28 rfl (lv_at hl 2 rfl) ?_
          refine lv_iload_n hx hb dd_Model_keeps_29 rfl (lv_at hl 3 rfl) ?_
          refine lv_iload hx hb dd_Model_keeps_30 (lv_at hl 4 rfl) ?_
          refine mm_i (wc := []) (wr := [(o, .inr (7, [.int thr, .int (nI n), .ref ml, .ref mm, .ref mw, .ref mc, .int (nI k), .ref mg, .ref md, .int so, .int fo, .ref mb, .long bb, .long bc, .ref mt, .long be, .ref mr, .int (nI rs), .ref mo, .int (nI rc), .ref mx, .ref mp, .ref nk, .ref na, .ref nv, .ref nf, .ref ns, .ref ne, .ref nw, .ref mf]))]) (va_runS (As := [.int (nI j), .int x0, .int x1, .int x2, .int x3]) (rest := []) ⟨hx, hb, hml, hown, hts⟩ (cc_Model_pick l D cI cZ cL cQ _ j x0 x1 x2 x3 (by omega)) (mm_cwS 5 hts ml_Model_89 sm_Model_pick ic_Model cd_Model_pick rfl rfl (by decide +kernel) ⟨Nat.le_of_ble_eq_true rfl, Nat.le_of_ble_eq_true rfl⟩) (mm_preS hK hP hD [] (by decide) rfl) rfl rfl hl.1 rfl (lv_room (Nat.le_of_ble_eq_true rfl)) dd_Model_keeps_32 ⟨Nat.zero_le _, Nat.zero_le _⟩) hP hD hS hA [] [0] rfl rfl (by decide) (by decide) (fun zr3 zu4 H locs p32 hP hD hS => ?_)
          have hP : va_P D kc_all [(o, .inr (7, [.int thr, .int (nI n), .ref ml, .ref mm, .ref mw, .ref mc, .int (nI k), .ref mg, .ref md, .int so, .int fo, .ref mb, .long bb, .long bc, .ref mt, .long be, .ref mr, .int (nI rs), .ref mo, .int (nI rc), .ref mx, .ref mp, .ref nk, .ref na, .ref nv, .ref nf, .ref ns, .ref ne, .ref nw, .ref mf]))] H := hP
          have hD : va_D A [(o, .inr (7, [.int thr, .int (nI n), .ref ml, .ref mm, .ref mw, .ref mc, .int (nI k), .ref mg, .ref md, .int so, .int fo, .ref mb, .long bb, .long bc, .ref mt, .long be, .ref mr, .int (nI rs), .ref mo, .int (nI rc), .ref mx, .ref mp, .ref nk, .ref na, .ref nv, .ref nf, .ref ns, .ref ne, .ref nw, .ref mf]))] := hD
          have p32 : zr3 = pk_f j x0 x1 x2 x3 := p32
          refine mm_topi (y := pk_f j x0 x1 x2 x3) (p32) ?_
          refine lv_sipush (v := (-20000)) hx hb dd_Model_keeps_35 (by decide) ?_
          refine lv_sipush (v := 20000) hx hb dd_Model_keeps_38 (by decide) ?_
          refine mm_i (wc := []) (wr := [(o, .inr (7, [.int thr, .int (nI n), .ref ml, .ref mm, .ref mw, .ref mc, .int (nI k), .ref mg, .ref md, .int so, .int fo, .ref mb, .long bb, .long bc, .ref mt, .long be, .ref mr, .int (nI rs), .ref mo, .int (nI rc), .ref mx, .ref mp, .ref nk, .ref na, .ref nv, .ref nf, .ref ns, .ref ne, .ref nw, .ref mf]))]) (va_runS (As := [.int (pk_f j x0 x1 x2 x3), .int (-20000 : Int32), .int (20000 : Int32)]) (rest := []) ⟨hx, hb, hml, hown, hts⟩ (cc_Model_isIn l D cI cZ cL cQ _ (pk_f j x0 x1 x2 x3) (-20000 : Int32) (20000 : Int32) ) (mm_cwS 3 hts ml_Model_79 sm_Model_isIn ic_Model cd_Model_isIn rfl rfl (by decide +kernel) ⟨Nat.le_of_ble_eq_true rfl, Nat.le_of_ble_eq_true rfl⟩) (mm_preS hK hP hD [] (by decide) rfl) rfl rfl hl.1 rfl (lv_room (Nat.le_of_ble_eq_true rfl)) dd_Model_keeps_41 ⟨Nat.zero_le _, Nat.zero_le _⟩) hP hD hS hA [] [0] rfl rfl (by decide) (by decide) (fun zr5 zu6 H locs p41 hP hD hS => ?_)
          have hP : va_P D kc_all [(o, .inr (7, [.int thr, .int (nI n), .ref ml, .ref mm, .ref mw, .ref mc, .int (nI k), .ref mg, .ref md, .int so, .int fo, .ref mb, .long bb, .long bc, .ref mt, .long be, .ref mr, .int (nI rs), .ref mo, .int (nI rc), .ref mx, .ref mp, .ref nk, .ref na, .ref nv, .ref nf, .ref ns, .ref ne, .ref nw, .ref mf]))] H := hP
          have hD : va_D A [(o, .inr (7, [.int thr, .int (nI n), .ref ml, .ref mm, .ref mw, .ref mc, .int (nI k), .ref mg, .ref md, .int so, .int fo, .ref mb, .long bb, .long bc, .ref mt, .long be, .ref mr, .int (nI rs), .ref mo, .int (nI rc), .ref mx, .ref mp, .ref nk, .ref na, .ref nv, .ref nf, .ref ns, .ref ne, .ref nw, .ref mf]))] := hD
          have p41 : tl_ok (in_ok (pk_f j x0 x1 x2 x3) (-20000 : Int32) (20000 : Int32)) zr5 := p41
          refine lv_if_eq (tgt := 51) hx hb dd_Model_keeps_44 (by decide) (fun h44 => ?_) (fun h44 => ?_)
          · skip
            refine lv_iconst (v := 0) hx hb dd_Model_keeps_51 (by decide) ?_
            refine lv_istore (lv' := [(6, .int (0 : Int32)), (0, .ref o), (1, .int x0), (2, .int x1), (3, .int x2), (4, .int x3), (5, .int qv), (7, .int (nI j))]) hx hb dd_Model_keeps_52 hl (by decide) rfl (fun ls hl => ?_)
            refine lv_iinc (k := 7) (v := nI (j + 1)) (lv' := [(7, .int (nI (j + 1))), (6, .int (0 : Int32)), (0, .ref o), (1, .int x0), (2, .int x1), (3, .int x2), (4, .int x3), (5, .int qv)]) hx hb dd_Model_keeps_54 hl rfl (nI_1 _) (by decide) rfl (fun ls hl => ?_)
            refine lv_goto (tgt := 14) hx hb dd_Model_keeps_57 (by decide) ?_
            exact IH14 (j + 1) (0 : Int32) (by omega) (by omega) (by first | exact kq_a hg h22 | exact kq_b p41 h44 | exact kq_c hg h22 p41 h44) ls H locs (lv_sub hl [2, 3, 4, 5, 6, 7, 1, 0] rfl) hP hD hS
          · skip
            refine lv_iconst (v := 1) hx hb dd_Model_keeps_47 (by decide) ?_
            refine lv_goto (tgt := 52) hx hb dd_Model_keeps_48 (by decide) ?_
            refine lv_istore (lv' := [(6, .int (1 : Int32)), (0, .ref o), (1, .int x0), (2, .int x1), (3, .int x2), (4, .int x3), (5, .int qv), (7, .int (nI j))]) hx hb dd_Model_keeps_52 hl (by decide) rfl (fun ls hl => ?_)
            refine lv_iinc (k := 7) (v := nI (j + 1)) (lv' := [(7, .int (nI (j + 1))), (6, .int (1 : Int32)), (0, .ref o), (1, .int x0), (2, .int x1), (3, .int x2), (4, .int x3), (5, .int qv)]) hx hb dd_Model_keeps_54 hl rfl (nI_1 _) (by decide) rfl (fun ls hl => ?_)
            refine lv_goto (tgt := 14) hx hb dd_Model_keeps_57 (by decide) ?_
            exact IH14 (j + 1) (1 : Int32) (by omega) (by omega) (by first | exact kq_a hg h22 | exact kq_b p41 h44 | exact kq_c hg h22 p41 h44) ls H locs (lv_sub hl [2, 3, 4, 5, 6, 7, 1, 0] rfl) hP hD hS
  exact J14 _ 0 zr1 (Nat.lt_succ_self _) (by omega) (kq_0 p6) ls H locs (lv_sub hl [2, 3, 4, 5, 6, 7, 1, 0] rfl) hP hD hS
