abbrev qq_Model_sound (D : va_G) (cI cZ cL cQ : ClassId) (o : Nat) (ml : Nat) (mm : Nat) (mw : Nat) (mc : Nat) (mg : Nat) (md : Nat) (mb : Nat) (mt : Nat) (mr : Nat) (mo : Nat) (mx : Nat) (mp : Nat) (nk : Nat) (na : Nat) (nv : Nat) (nf : Nat) (ns : Nat) (ne : Nat) (nw : Nat) (mf : Nat) (thr : Int32) (n : Nat) (k : Nat) (so : Int32) (fo : Int32) (bb : Int64) (bc : Int64) (be : Int64) (rs : Nat) (rc : Nat) (pv : Int32) (qv : Int32) (lo : Nat → Int32) (hi : Nat → Int32) (wh : Nat → Int32) (co : Nat → Int32) (wt : Nat → Int32) (bd : Nat → Int32) (kd : Nat → Int32) (fa : Nat → Int32) (fv : Nat → Int32) (fi : Nat → Int32) (se : Nat → Int32) (en : Nat → Int64) (wa : Nat → Int32) (fan : Nat → Nat) (fin : Nat → Nat) (sen : Nat → Nat) (A : Nat → Prop) : Array Value → State → Outcome → State → Prop := va_Qi (fun (r : Int32) (u : (Nat → Int32)) => tl_ok (tq_ok kd fv fan fin sen wh n (mj_ok en co wt bd n k pv.toInt64 qv.toInt64) (rs_4 lo) (rs_4 hi) 0) r) (fun (u : (Nat → Int32)) t => mm_B D kc_all [(cI, .int), (cZ, .boolean), (cL, .long), (cQ, .array .int)] A [(o, .inr (7, [.int 0, .int (nI n), .ref ml, .ref mm, .ref mw, .ref mc, .int (nI k), .ref mg, .ref md, .int so, .int fo, .ref mb, .long bb, .long bc, .ref mt, .long be, .ref mr, .int (nI rs), .ref mo, .int (nI rc), .ref mx, .ref mp, .ref nk, .ref na, .ref nv, .ref nf, .ref ns, .ref ne, .ref nw, .ref mf])), (ml, .inl (cI, 4, .inl lo)), (mm, .inl (cI, 4, .inl hi)), (mw, .inl (cZ, 4, .inl wh)), (mc, .inl (cI, 4, .inl co)), (mg, .inl (cI, 24, .inl wt)), (md, .inl (cI, 6, .inl bd)), (nk, .inl (cI, 40, .inl kd)), (na, .inl (cI, 40, .inl fa)), (nv, .inl (cI, 40, .inl fv)), (nf, .inl (cI, 40, .inl fi)), (ns, .inl (cI, 40, .inl se)), (ne, .inl (cL, 280, .inr (.inl en))), (nw, .inl (cI, 900, .inl u))] t) A
set_option maxHeartbeats 4000000 in
set_option maxRecDepth 100000 in
theorem cc_Model_sound (l : Launch) (D : va_G) (cI cZ cL cQ : ClassId) (sz : Nat) (o : Nat) (ml : Nat) (mm : Nat) (mw : Nat) (mc : Nat) (mg : Nat) (md : Nat) (mb : Nat) (mt : Nat) (mr : Nat) (mo : Nat) (mx : Nat) (mp : Nat) (nk : Nat) (na : Nat) (nv : Nat) (nf : Nat) (ns : Nat) (ne : Nat) (nw : Nat) (mf : Nat) (thr : Int32) (n : Nat) (k : Nat) (so : Int32) (fo : Int32) (bb : Int64) (bc : Int64) (be : Int64) (rs : Nat) (rc : Nat) (pv : Int32) (qv : Int32) (lo : Nat → Int32) (hi : Nat → Int32) (wh : Nat → Int32) (co : Nat → Int32) (wt : Nat → Int32) (bd : Nat → Int32) (kd : Nat → Int32) (fa : Nat → Int32) (fv : Nat → Int32) (fi : Nat → Int32) (se : Nat → Int32) (en : Nat → Int64) (wa : Nat → Int32) (fan : Nat → Nat) (fin : Nat → Nat) (sen : Nat → Nat) (hn : n ≤ 4) (hk : k ≤ 6) (hfa : ∀ i9, i9 < 40 → fa i9 = nI (fan i9) ∧ fan i9 < 4) (hfi : ∀ i9, i9 < 40 → fi i9 = nI (fin i9)) (hse : ∀ i9, i9 < 40 → se i9 = nI (sen i9)) (hu : tr_up kd fin sen) (hkd : ∀ i9, i9 < 40 → kd i9 = 0 ∨ kd i9 = 1 ∨ kd i9 = 2) (hok : (in_ok pv (-1000000) 1000000 ∧ in_ok qv 1 1000000)) : Met l yy_Model_sound ww_Model_sound ({ frames := 1, cells := 0, slots := 0, locals := 34 } : Room) (mm_Pc D kc_all [(cI, .int), (cZ, .boolean), (cL, .long), (cQ, .array .int)] sz [(o, .inr (7, [.int thr, .int (nI n), .ref ml, .ref mm, .ref mw, .ref mc, .int (nI k), .ref mg, .ref md, .int so, .int fo, .ref mb, .long bb, .long bc, .ref mt, .long be, .ref mr, .int (nI rs), .ref mo, .int (nI rc), .ref mx, .ref mp, .ref nk, .ref na, .ref nv, .ref nf, .ref ns, .ref ne, .ref nw, .ref mf])), (ml, .inl (cI, 4, .inl lo)), (mm, .inl (cI, 4, .inl hi)), (mw, .inl (cZ, 4, .inl wh)), (mc, .inl (cI, 4, .inl co)), (mg, .inl (cI, 24, .inl wt)), (md, .inl (cI, 6, .inl bd)), (nk, .inl (cI, 40, .inl kd)), (na, .inl (cI, 40, .inl fa)), (nv, .inl (cI, 40, .inl fv)), (nf, .inl (cI, 40, .inl fi)), (ns, .inl (cI, 40, .inl se)), (ne, .inl (cL, 280, .inr (.inl en))), (nw, .inl (cI, 900, .inl wa))] [.ref o, .int pv, .int qv]) (qq_Model_sound D cI cZ cL cQ o ml mm mw mc mg md mb mt mr mo mx mp nk na nv nf ns ne nw mf thr n k so fo bb bc be rs rc pv qv lo hi wh co wt bd kd fa fv fi se en wa fan fin sen (va_A [(o, .inr (7, [.int thr, .int (nI n), .ref ml, .ref mm, .ref mw, .ref mc, .int (nI k), .ref mg, .ref md, .int so, .int fo, .ref mb, .long bb, .long bc, .ref mt, .long be, .ref mr, .int (nI rs), .ref mo, .int (nI rc), .ref mx, .ref mp, .ref nk, .ref na, .ref nv, .ref nf, .ref ns, .ref ne, .ref nw, .ref mf])), (ml, .inl (cI, 4, .inl lo)), (mm, .inl (cI, 4, .inl hi)), (mw, .inl (cZ, 4, .inl wh)), (mc, .inl (cI, 4, .inl co)), (mg, .inl (cI, 24, .inl wt)), (md, .inl (cI, 6, .inl bd)), (nk, .inl (cI, 40, .inl kd)), (na, .inl (cI, 40, .inl fa)), (nv, .inl (cI, 40, .inl fv)), (nf, .inl (cI, 40, .inl fi)), (ns, .inl (cI, 40, .inl se)), (ne, .inl (cL, 280, .inr (.inl en))), (nw, .inl (cI, 900, .inl wa))] sz)) 0 0 (va_A [(o, .inr (7, [.int thr, .int (nI n), .ref ml, .ref mm, .ref mw, .ref mc, .int (nI k), .ref mg, .ref md, .int so, .int fo, .ref mb, .long bb, .long bc, .ref mt, .long be, .ref mr, .int (nI rs), .ref mo, .int (nI rc), .ref mx, .ref mp, .ref nk, .ref na, .ref nv, .ref nf, .ref ns, .ref ne, .ref nw, .ref mf])), (ml, .inl (cI, 4, .inl lo)), (mm, .inl (cI, 4, .inl hi)), (mw, .inl (cZ, 4, .inl wh)), (mc, .inl (cI, 4, .inl co)), (mg, .inl (cI, 24, .inl wt)), (md, .inl (cI, 6, .inl bd)), (nk, .inl (cI, 40, .inl kd)), (na, .inl (cI, 40, .inl fa)), (nv, .inl (cI, 40, .inl fv)), (nf, .inl (cI, 40, .inl fi)), (ns, .inl (cI, 40, .inl se)), (ne, .inl (cL, 280, .inr (.inl en))), (nw, .inl (cI, 900, .inl wa))] sz) := by
  refine Met.ofW (cc := bb_Model_sound) (maxL := 9) (ret := (some .boolean)) (by decide) rfl ?_
  intro p e s m args below meth c s₁ B hml hv
  obtain ⟨rfl, hsz, hP, hK, hD0⟩ := hv
  have hx := B.exec
  have hb := B.bytes
  have hr := B.returns
  have hts := atoms_spec (ws := ww_Model_sound) B.pre
  have hown : s.vm.findClass RR_Model = some m.cls := findClass_of_methodNamed B.named
  have hlocks := B.notSynchronized
  subst hsz
  have hD := hD0.self (sz := s.heap.size)
  generalize hAe : va_A [(o, .inr (7, [.int thr, .int (nI n), .ref ml, .ref mm, .ref mw, .ref mc, .int (nI k), .ref mg, .ref md, .int so, .int fo, .ref mb, .long bb, .long bc, .ref mt, .long be, .ref mr, .int (nI rs), .ref mo, .int (nI rc), .ref mx, .ref mp, .ref nk, .ref na, .ref nv, .ref nf, .ref ns, .ref ne, .ref nw, .ref mf])), (ml, .inl (cI, 4, .inl lo)), (mm, .inl (cI, 4, .inl hi)), (mw, .inl (cZ, 4, .inl wh)), (mc, .inl (cI, 4, .inl co)), (mg, .inl (cI, 24, .inl wt)), (md, .inl (cI, 6, .inl bd)), (nk, .inl (cI, 40, .inl kd)), (na, .inl (cI, 40, .inl fa)), (nv, .inl (cI, 40, .inl fv)), (nf, .inl (cI, 40, .inl fi)), (ns, .inl (cI, 40, .inl se)), (ne, .inl (cL, 280, .inr (.inl en))), (nw, .inl (cI, 900, .inl wa))] s.heap.size = A at hD ⊢
  have hA : ∀ q : Nat, s.heap.size ≤ q → A q := fun q h => by rw [← hAe]; exact Or.inr h
  have hS : va_S A s.heap s.heap [] := va_S.rf
  have hP : va_P D kc_all [(o, .inr (7, [.int thr, .int (nI n), .ref ml, .ref mm, .ref mw, .ref mc, .int (nI k), .ref mg, .ref md, .int so, .int fo, .ref mb, .long bb, .long bc, .ref mt, .long be, .ref mr, .int (nI rs), .ref mo, .int (nI rc), .ref mx, .ref mp, .ref nk, .ref na, .ref nv, .ref nf, .ref ns, .ref ne, .ref nw, .ref mf])), (ml, .inl (cI, 4, .inl lo)), (mm, .inl (cI, 4, .inl hi)), (mw, .inl (cZ, 4, .inl wh)), (mc, .inl (cI, 4, .inl co)), (mg, .inl (cI, 24, .inl wt)), (md, .inl (cI, 6, .inl bd)), (nk, .inl (cI, 40, .inl kd)), (na, .inl (cI, 40, .inl fa)), (nv, .inl (cI, 40, .inl fv)), (nf, .inl (cI, 40, .inl fi)), (ns, .inl (cI, 40, .inl se)), (ne, .inl (cL, 280, .inr (.inl en))), (nw, .inl (cI, 900, .inl wa))] s.heap := hP
  have hl := lv_entry ([.ref o, .int pv, .int qv]) (n := 9) (Nat.le_of_ble_eq_true rfl)
  rw [lg_entry_eq]
  generalize (lg_sl ([.ref o, .int pv, .int qv]) ++ List.replicate (9 - (lg_sl ([.ref o, .int pv, .int qv])).length) Slot.unset).toArray = ls at hl ⊢
  have hl : lv_has ls 9 [(0, .ref o), (1, .int pv), (2, .int qv)] := hl
  have htb : ∀ w ∈ tb_all, w.before ([.ref o, .int pv, .int qv]).toArray s = true := fun w h => hts w (List.mem_cons_of_mem _ h)
  have hf_7 := htb _ fl_Model_7
  have hf_13 := htb _ fl_Model_13
  have hf_17 := htb _ fl_Model_17
  have hf_20 := htb _ fl_Model_20
  have hf_52 := htb _ fl_Model_52
  have hf_55 := htb _ fl_Model_55
  have hf_58 := htb _ fl_Model_58
  have hf_61 := htb _ fl_Model_61
  have hf_64 := htb _ fl_Model_64
  have hf_70 := htb _ fl_Model_70
  have hf_76 := htb _ fl_Model_76
  refine lv_aload_n hx hb dd_Model_sound_0 rfl (lv_at hl 0 rfl) ?_
  refine lv_iload_n hx hb dd_Model_sound_1 rfl (lv_at hl 1 rfl) ?_
  refine lv_ldc (v := (-1000000)) hx hb hown (htb _ kn_Model_153) dd_Model_sound_2 ?_
  refine lv_ldc (v := 1000000) hx hb hown (htb _ kn_Model_152) dd_Model_sound_4 ?_
  refine mm_i (wc := []) (wr := [(o, .inr (7, [.int thr, .int (nI n), .ref ml, .ref mm, .ref mw, .ref mc, .int (nI k), .ref mg, .ref md, .int so, .int fo, .ref mb, .long bb, .long bc, .ref mt, .long be, .ref mr, .int (nI rs), .ref mo, .int (nI rc), .ref mx, .ref mp, .ref nk, .ref na, .ref nv, .ref nf, .ref ns, .ref ne, .ref nw, .ref mf])), (ml, .inl (cI, 4, .inl lo)), (mm, .inl (cI, 4, .inl hi)), (mw, .inl (cZ, 4, .inl wh)), (mc, .inl (cI, 4, .inl co)), (mg, .inl (cI, 24, .inl wt)), (md, .inl (cI, 6, .inl bd)), (nk, .inl (cI, 40, .inl kd)), (na, .inl (cI, 40, .inl fa)), (nv, .inl (cI, 40, .inl fv)), (nf, .inl (cI, 40, .inl fi)), (ns, .inl (cI, 40, .inl se)), (ne, .inl (cL, 280, .inr (.inl en))), (nw, .inl (cI, 900, .inl wa))]) (va_runS (As := [.int pv, .int (-1000000 : Int32), .int (1000000 : Int32)]) (rest := [.ref o]) ⟨hx, hb, hml, hown, hts⟩ (cc_Model_isIn l D cI cZ cL cQ _ pv (-1000000 : Int32) (1000000 : Int32) ) (mm_cwS 3 hts ml_Model_79 sm_Model_isIn ic_Model cd_Model_isIn rfl rfl (by decide +kernel) ⟨Nat.le_of_ble_eq_true rfl, Nat.le_of_ble_eq_true rfl⟩) (mm_preS hK hP hD [] (by decide) rfl) rfl rfl hl.1 rfl (lv_room (Nat.le_of_ble_eq_true rfl)) dd_Model_sound_6 ⟨Nat.zero_le _, Nat.zero_le _⟩) hP hD hS hA [] [0, 1, 2, 3, 4, 5, 6, 7, 8, 9, 10, 11, 12, 13] rfl rfl (by decide) (by decide) (fun zr1 zu2 H locs p6 hP hD hS => ?_)
  have hP : va_P D kc_all [(o, .inr (7, [.int thr, .int (nI n), .ref ml, .ref mm, .ref mw, .ref mc, .int (nI k), .ref mg, .ref md, .int so, .int fo, .ref mb, .long bb, .long bc, .ref mt, .long be, .ref mr, .int (nI rs), .ref mo, .int (nI rc), .ref mx, .ref mp, .ref nk, .ref na, .ref nv, .ref nf, .ref ns, .ref ne, .ref nw, .ref mf])), (ml, .inl (cI, 4, .inl lo)), (mm, .inl (cI, 4, .inl hi)), (mw, .inl (cZ, 4, .inl wh)), (mc, .inl (cI, 4, .inl co)), (mg, .inl (cI, 24, .inl wt)), (md, .inl (cI, 6, .inl bd)), (nk, .inl (cI, 40, .inl kd)), (na, .inl (cI, 40, .inl fa)), (nv, .inl (cI, 40, .inl fv)), (nf, .inl (cI, 40, .inl fi)), (ns, .inl (cI, 40, .inl se)), (ne, .inl (cL, 280, .inr (.inl en))), (nw, .inl (cI, 900, .inl wa))] H := hP
  have hD : va_D A [(o, .inr (7, [.int thr, .int (nI n), .ref ml, .ref mm, .ref mw, .ref mc, .int (nI k), .ref mg, .ref md, .int so, .int fo, .ref mb, .long bb, .long bc, .ref mt, .long be, .ref mr, .int (nI rs), .ref mo, .int (nI rc), .ref mx, .ref mp, .ref nk, .ref na, .ref nv, .ref nf, .ref ns, .ref ne, .ref nw, .ref mf])), (ml, .inl (cI, 4, .inl lo)), (mm, .inl (cI, 4, .inl hi)), (mw, .inl (cZ, 4, .inl wh)), (mc, .inl (cI, 4, .inl co)), (mg, .inl (cI, 24, .inl wt)), (md, .inl (cI, 6, .inl bd)), (nk, .inl (cI, 40, .inl kd)), (na, .inl (cI, 40, .inl fa)), (nv, .inl (cI, 40, .inl fv)), (nf, .inl (cI, 40, .inl fi)), (ns, .inl (cI, 40, .inl se)), (ne, .inl (cL, 280, .inr (.inl en))), (nw, .inl (cI, 900, .inl wa))] := hD
  have p6 : tl_ok (in_ok pv (-1000000 : Int32) (1000000 : Int32)) zr1 := p6
  refine lv_if_eq (tgt := 26) hx hb dd_Model_sound_9 (by decide) (fun h9 => ?_) (fun h9 => ?_)
  · skip
    exact absurd hok.1 (tl_0 p6 h9)
  · skip
    refine lv_iload_n hx hb dd_Model_sound_12 rfl (lv_at hl 2 rfl) ?_
    refine lv_iconst (v := 1) hx hb dd_Model_sound_13 (by decide) ?_
    refine lv_ldc (v := 1000000) hx hb hown (htb _ kn_Model_152) dd_Model_sound_14 ?_
    refine mm_i (wc := []) (wr := [(o, .inr (7, [.int thr, .int (nI n), .ref ml, .ref mm, .ref mw, .ref mc, .int (nI k), .ref mg, .ref md, .int so, .int fo, .ref mb, .long bb, .long bc, .ref mt, .long be, .ref mr, .int (nI rs), .ref mo, .int (nI rc), .ref mx, .ref mp, .ref nk, .ref na, .ref nv, .ref nf, .ref ns, .ref ne, .ref nw, .ref mf])), (ml, .inl (cI, 4, .inl lo)), (mm, .inl (cI, 4, .inl hi)), (mw, .inl (cZ, 4, .inl wh)), (mc, .inl (cI, 4, .inl co)), (mg, .inl (cI, 24, .inl wt)), (md, .inl (cI, 6, .inl bd)), (nk, .inl (cI, 40, .inl kd)), (na, .inl (cI, 40, .inl fa)), (nv, .inl (cI, 40, .inl fv)), (nf, .inl (cI, 40, .inl fi)), (ns, .inl (cI, 40, .inl se)), (ne, .inl (cL, 280, .inr (.inl en))), (nw, .inl (cI, 900, .inl wa))]) (va_runS (As := [.int qv, .int (1 : Int32), .int (1000000 : Int32)]) (rest := [.ref o]) ⟨hx, hb, hml, hown, hts⟩ (cc_Model_isIn l D cI cZ cL cQ _ qv (1 : Int32) (1000000 : Int32) ) (mm_cwS 3 hts ml_Model_79 sm_Model_isIn ic_Model cd_Model_isIn rfl rfl (by decide +kernel) ⟨Nat.le_of_ble_eq_true rfl, Nat.le_of_ble_eq_true rfl⟩) (mm_preS hK hP hD [] (by decide) rfl) rfl rfl hl.1 rfl (lv_room (Nat.le_of_ble_eq_true rfl)) dd_Model_sound_16 ⟨Nat.zero_le _, Nat.zero_le _⟩) hP hD hS hA [] [0, 1, 2, 3, 4, 5, 6, 7, 8, 9, 10, 11, 12, 13] rfl rfl (by decide) (by decide) (fun zr3 zu4 H locs p16 hP hD hS => ?_)
    have hP : va_P D kc_all [(o, .inr (7, [.int thr, .int (nI n), .ref ml, .ref mm, .ref mw, .ref mc, .int (nI k), .ref mg, .ref md, .int so, .int fo, .ref mb, .long bb, .long bc, .ref mt, .long be, .ref mr, .int (nI rs), .ref mo, .int (nI rc), .ref mx, .ref mp, .ref nk, .ref na, .ref nv, .ref nf, .ref ns, .ref ne, .ref nw, .ref mf])), (ml, .inl (cI, 4, .inl lo)), (mm, .inl (cI, 4, .inl hi)), (mw, .inl (cZ, 4, .inl wh)), (mc, .inl (cI, 4, .inl co)), (mg, .inl (cI, 24, .inl wt)), (md, .inl (cI, 6, .inl bd)), (nk, .inl (cI, 40, .inl kd)), (na, .inl (cI, 40, .inl fa)), (nv, .inl (cI, 40, .inl fv)), (nf, .inl (cI, 40, .inl fi)), (ns, .inl (cI, 40, .inl se)), (ne, .inl (cL, 280, .inr (.inl en))), (nw, .inl (cI, 900, .inl wa))] H := hP
    have hD : va_D A [(o, .inr (7, [.int thr, .int (nI n), .ref ml, .ref mm, .ref mw, .ref mc, .int (nI k), .ref mg, .ref md, .int so, .int fo, .ref mb, .long bb, .long bc, .ref mt, .long be, .ref mr, .int (nI rs), .ref mo, .int (nI rc), .ref mx, .ref mp, .ref nk, .ref na, .ref nv, .ref nf, .ref ns, .ref ne, .ref nw, .ref mf])), (ml, .inl (cI, 4, .inl lo)), (mm, .inl (cI, 4, .inl hi)), (mw, .inl (cZ, 4, .inl wh)), (mc, .inl (cI, 4, .inl co)), (mg, .inl (cI, 24, .inl wt)), (md, .inl (cI, 6, .inl bd)), (nk, .inl (cI, 40, .inl kd)), (na, .inl (cI, 40, .inl fa)), (nv, .inl (cI, 40, .inl fv)), (nf, .inl (cI, 40, .inl fi)), (ns, .inl (cI, 40, .inl se)), (ne, .inl (cL, 280, .inr (.inl en))), (nw, .inl (cI, 900, .inl wa))] := hD
    have p16 : tl_ok (in_ok qv (1 : Int32) (1000000 : Int32)) zr3 := p16
    refine lv_if_eq (tgt := 26) hx hb dd_Model_sound_19 (by decide) (fun h19 => ?_) (fun h19 => ?_)
    · skip
      exact absurd hok.2 (tl_0 p16 h19)
    · skip
      refine lv_iconst (v := 0) hx hb dd_Model_sound_22 (by decide) ?_
      refine lv_goto (tgt := 27) hx hb dd_Model_sound_23 (by decide) ?_
      refine va_put (D := D) (ci := 7) (v := .int (0 : Int32)) (ty := .int) (C := RR_Model) (T := FF_Model) (N := 30) hx hb htb hi_Model tt_Model tt_Model_ok nn_Model hown hK hP hD hS 0 rfl rfl 0 (by decide) hf_76 (fun _ h9 => h9) rfl (by decide +kernel) (rfl) (rfl) (Nat.le_of_ble_eq_true rfl) dd_Model_sound_27 (fun H locs hP hD hS => ?_)
      have hP : va_P D kc_all [(o, .inr (7, [.int (0 : Int32), .int (nI n), .ref ml, .ref mm, .ref mw, .ref mc, .int (nI k), .ref mg, .ref md, .int so, .int fo, .ref mb, .long bb, .long bc, .ref mt, .long be, .ref mr, .int (nI rs), .ref mo, .int (nI rc), .ref mx, .ref mp, .ref nk, .ref na, .ref nv, .ref nf, .ref ns, .ref ne, .ref nw, .ref mf])), (ml, .inl (cI, 4, .inl lo)), (mm, .inl (cI, 4, .inl hi)), (mw, .inl (cZ, 4, .inl wh)), (mc, .inl (cI, 4, .inl co)), (mg, .inl (cI, 24, .inl wt)), (md, .inl (cI, 6, .inl bd)), (nk, .inl (cI, 40, .inl kd)), (na, .inl (cI, 40, .inl fa)), (nv, .inl (cI, 40, .inl fv)), (nf, .inl (cI, 40, .inl fi)), (ns, .inl (cI, 40, .inl se)), (ne, .inl (cL, 280, .inr (.inl en))), (nw, .inl (cI, 900, .inl wa))] H := hP
      have hD : va_D A [(o, .inr (7, [.int (0 : Int32), .int (nI n), .ref ml, .ref mm, .ref mw, .ref mc, .int (nI k), .ref mg, .ref md, .int so, .int fo, .ref mb, .long bb, .long bc, .ref mt, .long be, .ref mr, .int (nI rs), .ref mo, .int (nI rc), .ref mx, .ref mp, .ref nk, .ref na, .ref nv, .ref nf, .ref ns, .ref ne, .ref nw, .ref mf])), (ml, .inl (cI, 4, .inl lo)), (mm, .inl (cI, 4, .inl hi)), (mw, .inl (cZ, 4, .inl wh)), (mc, .inl (cI, 4, .inl co)), (mg, .inl (cI, 24, .inl wt)), (md, .inl (cI, 6, .inl bd)), (nk, .inl (cI, 40, .inl kd)), (na, .inl (cI, 40, .inl fa)), (nv, .inl (cI, 40, .inl fv)), (nf, .inl (cI, 40, .inl fi)), (ns, .inl (cI, 40, .inl se)), (ne, .inl (cL, 280, .inr (.inl en))), (nw, .inl (cI, 900, .inl wa))] := hD
      refine lv_aload_n hx hb dd_Model_sound_30 rfl (lv_at hl 0 rfl) ?_
      refine va_get (D := D) (ci := 7) (v := .int (0 : Int32)) (C := RR_Model) (T := FF_Model) (N := 30) hx hb htb hi_Model hown hK hP 0 rfl rfl 0 (by decide) hf_76 (fun _ h9 => h9) rfl dd_Model_sound_31 ?_
      refine lv_if_le (tgt := 39) hx hb dd_Model_sound_34 (by decide) (fun h34 => ?_) (fun h34 => ?_)
      · skip
        have h34 : 0 ≤ 0 := (nI_leI (a := 0) (b := 0) (by omega) (by omega)).mp h34
        refine lv_aload_n hx hb dd_Model_sound_39 rfl (lv_at hl 0 rfl) ?_
        refine va_get (D := D) (ci := 7) (v := .ref nw) (C := RR_Model) (T := FF_Model) (N := 30) hx hb htb hi_Model hown hK hP 0 rfl rfl 28 (by decide) hf_70 (fun _ h9 => h9) rfl dd_Model_sound_40 ?_
        refine lv_iconst (v := 0) hx hb dd_Model_sound_43 (by decide) ?_
        refine lv_iconst (v := 0) hx hb dd_Model_sound_44 (by decide) ?_
        refine mm_iast hx hb hK hP hD hS 13 0 rfl rfl (0) (rfl) (by omega) (by first | decide | omega) dd_Model_sound_45 (fun H locs hP hD hS => ?_)
        have hP : va_P D kc_all [(o, .inr (7, [.int (0 : Int32), .int (nI n), .ref ml, .ref mm, .ref mw, .ref mc, .int (nI k), .ref mg, .ref md, .int so, .int fo, .ref mb, .long bb, .long bc, .ref mt, .long be, .ref mr, .int (nI rs), .ref mo, .int (nI rc), .ref mx, .ref mp, .ref nk, .ref na, .ref nv, .ref nf, .ref ns, .ref ne, .ref nw, .ref mf])), (ml, .inl (cI, 4, .inl lo)), (mm, .inl (cI, 4, .inl hi)), (mw, .inl (cZ, 4, .inl wh)), (mc, .inl (cI, 4, .inl co)), (mg, .inl (cI, 24, .inl wt)), (md, .inl (cI, 6, .inl bd)), (nk, .inl (cI, 40, .inl kd)), (na, .inl (cI, 40, .inl fa)), (nv, .inl (cI, 40, .inl fv)), (nf, .inl (cI, 40, .inl fi)), (ns, .inl (cI, 40, .inl se)), (ne, .inl (cL, 280, .inr (.inl en))), (nw, .inl (cI, 900, .inl (upd wa 0 (0 : Int32))))] H := hP
        have hD : va_D A [(o, .inr (7, [.int (0 : Int32), .int (nI n), .ref ml, .ref mm, .ref mw, .ref mc, .int (nI k), .ref mg, .ref md, .int so, .int fo, .ref mb, .long bb, .long bc, .ref mt, .long be, .ref mr, .int (nI rs), .ref mo, .int (nI rc), .ref mx, .ref mp, .ref nk, .ref na, .ref nv, .ref nf, .ref ns, .ref ne, .ref nw, .ref mf])), (ml, .inl (cI, 4, .inl lo)), (mm, .inl (cI, 4, .inl hi)), (mw, .inl (cZ, 4, .inl wh)), (mc, .inl (cI, 4, .inl co)), (mg, .inl (cI, 24, .inl wt)), (md, .inl (cI, 6, .inl bd)), (nk, .inl (cI, 40, .inl kd)), (na, .inl (cI, 40, .inl fa)), (nv, .inl (cI, 40, .inl fv)), (nf, .inl (cI, 40, .inl fi)), (ns, .inl (cI, 40, .inl se)), (ne, .inl (cL, 280, .inr (.inl en))), (nw, .inl (cI, 900, .inl (upd wa 0 (0 : Int32))))] := hD
        refine lv_iconst (v := 0) hx hb dd_Model_sound_46 (by decide) ?_
        refine lv_istore_n (lv' := [(3, .int (0 : Int32)), (0, .ref o), (1, .int pv), (2, .int qv)]) hx hb dd_Model_sound_47 rfl hl (by decide) rfl (fun ls hl => ?_)
        have J48 : ∀ (N : Nat) (j : Nat) (wa1 : Nat → Int32), (4 - j) < N → ∀ (hj : j ≤ 4) (hv : wa1 = sw_f wa lo hi j), ∀ (ls : Array Slot) (H : Heap) (locs : List Loc), lv_has ls 9 [(0, .ref o), (1, .int pv), (2, .int qv), (3, .int (nI j))] → va_P D kc_all [(o, .inr (7, [.int 0, .int (nI n), .ref ml, .ref mm, .ref mw, .ref mc, .int (nI k), .ref mg, .ref md, .int so, .int fo, .ref mb, .long bb, .long bc, .ref mt, .long be, .ref mr, .int (nI rs), .ref mo, .int (nI rc), .ref mx, .ref mp, .ref nk, .ref na, .ref nv, .ref nf, .ref ns, .ref ne, .ref nw, .ref mf])), (ml, .inl (cI, 4, .inl lo)), (mm, .inl (cI, 4, .inl hi)), (mw, .inl (cZ, 4, .inl wh)), (mc, .inl (cI, 4, .inl co)), (mg, .inl (cI, 24, .inl wt)), (md, .inl (cI, 6, .inl bd)), (nk, .inl (cI, 40, .inl kd)), (na, .inl (cI, 40, .inl fa)), (nv, .inl (cI, 40, .inl fv)), (nf, .inl (cI, 40, .inl fi)), (ns, .inl (cI, 40, .inl se)), (ne, .inl (cL, 280, .inr (.inl en))), (nw, .inl (cI, 900, .inl wa1))] H → va_D A [(o, .inr (7, [.int 0, .int (nI n), .ref ml, .ref mm, .ref mw, .ref mc, .int (nI k), .ref mg, .ref md, .int so, .int fo, .ref mb, .long bb, .long bc, .ref mt, .long be, .ref mr, .int (nI rs), .ref mo, .int (nI rc), .ref mx, .ref mp, .ref nk, .ref na, .ref nv, .ref nf, .ref ns, .ref ne, .ref nw, .ref mf])), (ml, .inl (cI, 4, .inl lo)), (mm, .inl (cI, 4, .inl hi)), (mw, .inl (cZ, 4, .inl wh)), (mc, .inl (cI, 4, .inl co)), (mg, .inl (cI, 24, .inl wt)), (md, .inl (cI, 6, .inl bd)), (nk, .inl (cI, 40, .inl kd)), (na, .inl (cI, 40, .inl fa)), (nv, .inl (cI, 40, .inl fv)), (nf, .inl (cI, 40, .inl fi)), (ns, .inl (cI, 40, .inl se)), (ne, .inl (cL, 280, .inr (.inl en))), (nw, .inl (cI, 900, .inl wa1))] → va_S A s.heap H locs → W p l e (headSpec ww_Model_sound ({ frames := 1, cells := 0, slots := 0, locals := 34 } : Room)).room s m ([.ref o, .int pv, .int qv]).toArray below meth c H locs 0 0 (MQ below (qq_Model_sound D cI cZ cL cQ o ml mm mw mc mg md mb mt mr mo mx mp nk na nv nf ns ne nw mf thr n k so fo bb bc be rs rc pv qv lo hi wh co wt bd kd fa fv fi se en wa fan fin sen A) ([.ref o, .int pv, .int qv]).toArray s 0 0 A) (F0 m 48 ls []) := by
          intro N
          induction N with
          | zero => intro j wa1 hN9; exact absurd hN9 (Nat.not_lt_zero _)
          | succ N IH48 =>
            intro j wa1 hN9 hj hv ls H locs hl hP hD hS
            refine lv_iload_n hx hb dd_Model_sound_48 rfl (lv_at hl 3 rfl) ?_
            refine lv_iconst (v := 4) hx hb dd_Model_sound_49 (by decide) ?_
            refine lv_icmp_ge (tgt := 87) hx hb dd_Model_sound_50 (by decide) (fun h50 => ?_) (fun h50 => ?_)
            · skip
              have h50 : 4 ≤ j := (nI_leI (a := 4) (b := j) (by omega) (by omega)).mp h50
              have e4 : j = 4 := by omega
              have hs9 : so_inv (tq_ok kd fv fan fin sen wh n (mj_ok en co wt bd n k pv.toInt64 qv.toInt64)) (tq_ok kd fv fan fin sen wh n (mj_ok en co wt bd n k pv.toInt64 qv.toInt64) (rs_4 lo) (rs_4 hi) 0) wa1 1 := by rw [hv, e4]; exact sw_e
              refine lv_iconst (v := 1) hx hb dd_Model_sound_87 (by decide) ?_
              refine lv_istore_n (lv' := [(3, .int (1 : Int32)), (0, .ref o), (1, .int pv), (2, .int qv)]) hx hb dd_Model_sound_88 rfl hl (by decide) rfl (fun ls hl => ?_)
              have J89 : ∀ (N : Nat) (mm9 : Nat) (wa2 : Nat → Int32), (so_m wa2 mm9) < N → ∀ (hv2 : so_inv (tq_ok kd fv fan fin sen wh n (mj_ok en co wt bd n k pv.toInt64 qv.toInt64)) (tq_ok kd fv fan fin sen wh n (mj_ok en co wt bd n k pv.toInt64 qv.toInt64) (rs_4 lo) (rs_4 hi) 0) wa2 mm9), ∀ (ls : Array Slot) (H : Heap) (locs : List Loc), lv_has ls 9 [(0, .ref o), (1, .int pv), (2, .int qv), (3, .int (nI mm9))] → va_P D kc_all [(o, .inr (7, [.int 0, .int (nI n), .ref ml, .ref mm, .ref mw, .ref mc, .int (nI k), .ref mg, .ref md, .int so, .int fo, .ref mb, .long bb, .long bc, .ref mt, .long be, .ref mr, .int (nI rs), .ref mo, .int (nI rc), .ref mx, .ref mp, .ref nk, .ref na, .ref nv, .ref nf, .ref ns, .ref ne, .ref nw, .ref mf])), (ml, .inl (cI, 4, .inl lo)), (mm, .inl (cI, 4, .inl hi)), (mw, .inl (cZ, 4, .inl wh)), (mc, .inl (cI, 4, .inl co)), (mg, .inl (cI, 24, .inl wt)), (md, .inl (cI, 6, .inl bd)), (nk, .inl (cI, 40, .inl kd)), (na, .inl (cI, 40, .inl fa)), (nv, .inl (cI, 40, .inl fv)), (nf, .inl (cI, 40, .inl fi)), (ns, .inl (cI, 40, .inl se)), (ne, .inl (cL, 280, .inr (.inl en))), (nw, .inl (cI, 900, .inl wa2))] H → va_D A [(o, .inr (7, [.int 0, .int (nI n), .ref ml, .ref mm, .ref mw, .ref mc, .int (nI k), .ref mg, .ref md, .int so, .int fo, .ref mb, .long bb, .long bc, .ref mt, .long be, .ref mr, .int (nI rs), .ref mo, .int (nI rc), .ref mx, .ref mp, .ref nk, .ref na, .ref nv, .ref nf, .ref ns, .ref ne, .ref nw, .ref mf])), (ml, .inl (cI, 4, .inl lo)), (mm, .inl (cI, 4, .inl hi)), (mw, .inl (cZ, 4, .inl wh)), (mc, .inl (cI, 4, .inl co)), (mg, .inl (cI, 24, .inl wt)), (md, .inl (cI, 6, .inl bd)), (nk, .inl (cI, 40, .inl kd)), (na, .inl (cI, 40, .inl fa)), (nv, .inl (cI, 40, .inl fv)), (nf, .inl (cI, 40, .inl fi)), (ns, .inl (cI, 40, .inl se)), (ne, .inl (cL, 280, .inr (.inl en))), (nw, .inl (cI, 900, .inl wa2))] → va_S A s.heap H locs → W p l e (headSpec ww_Model_sound ({ frames := 1, cells := 0, slots := 0, locals := 34 } : Room)).room s m ([.ref o, .int pv, .int qv]).toArray below meth c H locs 0 0 (MQ below (qq_Model_sound D cI cZ cL cQ o ml mm mw mc mg md mb mt mr mo mx mp nk na nv nf ns ne nw mf thr n k so fo bb bc be rs rc pv qv lo hi wh co wt bd kd fa fv fi se en wa fan fin sen A) ([.ref o, .int pv, .int qv]).toArray s 0 0 A) (F0 m 89 ls []) := by
                intro N
                induction N with
                | zero => intro mm9 wa2 hN9; exact absurd hN9 (Nat.not_lt_zero _)
                | succ N IH89 =>
                  intro mm9 wa2 hN9 hv2 ls H locs hl hP hD hS
                  have hm40 := so_le hv2.1
                  refine lv_iload_n hx hb dd_Model_sound_89 rfl (lv_at hl 3 rfl) ?_
                  refine lv_if_le (tgt := 342) hx hb dd_Model_sound_90 (by decide) (fun h90 => ?_) (fun h90 => ?_)
                  · skip
                    have h90 : mm9 ≤ 0 := (nI_leI (a := mm9) (b := 0) (by omega) (by omega)).mp h90
                    refine lv_iconst (v := 1) hx hb dd_Model_sound_342 (by decide) ?_
                    exact W.zret (v := (1 : Int32)) hx hb hr (rfl) (fun t ht hW => ⟨⟨(1 : Int32), wa2, rfl, so_end hv2 (by omega), by rw [ht]; exact hP, va_K.moved hW.alike hK, hD⟩, hS.F ht⟩) hS.2.2 dd_Model_sound_343
                  · skip
                    have h90 : ¬ (mm9 ≤ 0) := fun q9 => h90 ((nI_leI (a := mm9) (b := 0) (by omega) (by omega)).mpr q9)
                    have hN1 := hN9
                    obtain ⟨m9, rfl⟩ : ∃ m9, mm9 = m9 + 1 := ⟨mm9 - 1, by omega⟩
                    obtain ⟨nd, hnd, hmn, hne⟩ := hv2.1 m9 (by omega)
                    have hl : lv_has ls 9 [(0, .ref o), (1, .int pv), (2, .int qv), (3, .int (nI (m9 + 1)))] := hl
                    refine lv_iinc (k := 3) (v := nI m9) (lv' := [(3, .int (nI m9)), (0, .ref o), (1, .int pv), (2, .int qv)]) hx hb dd_Model_sound_93 hl rfl (pk_m1 m9) (by decide) rfl (fun ls hl => ?_)
                    refine lv_bipush (v := 9) hx hb dd_Model_sound_96 (by decide) ?_
                    refine lv_iload_n hx hb dd_Model_sound_98 rfl (lv_at hl 0 rfl) ?_
                    refine lv_imul hx hb dd_Model_sound_99 ?_
                    refine mm_topi (y := nI (9 * m9)) (pk_mul 9 m9) ?_
                    refine lv_istore (lv' := [(4, .int (nI (9 * m9))), (3, .int (nI m9)), (0, .ref o), (1, .int pv), (2, .int qv)]) hx hb dd_Model_sound_100 hl (by decide) rfl (fun ls hl => ?_)
                    refine lv_aload_n hx hb dd_Model_sound_102 rfl (lv_at hl 2 rfl) ?_
                    refine va_get (D := D) (ci := 7) (v := .ref nw) (C := RR_Model) (T := FF_Model) (N := 30) hx hb htb hi_Model hown hK hP 0 rfl rfl 28 (by decide) hf_70 (fun _ h9 => h9) rfl dd_Model_sound_103 ?_
                    refine lv_iload hx hb dd_Model_sound_106 (lv_at hl 0 rfl) ?_
                    refine mm_iald hx hb hK hP 13 0 rfl rfl (9 * m9) (rfl) (by omega) (by first | decide | omega) dd_Model_sound_108 ?_
                    refine mm_topi (y := nI nd) (hne) ?_
                    refine lv_istore (lv' := [(5, .int (nI nd)), (4, .int (nI (9 * m9))), (3, .int (nI m9)), (0, .ref o), (1, .int pv), (2, .int qv)]) hx hb dd_Model_sound_109 hl (by decide) rfl (fun ls hl => ?_)
                    have J160 : ∀  (hk1 : kd nd = 1), ∀ (ls : Array Slot) (H : Heap) (locs : List Loc), lv_has ls 9 [(0, .ref o), (1, .int pv), (2, .int qv), (3, .int (nI m9)), (4, .int (nI (9 * m9))), (5, .int (nI nd))] → va_P D kc_all [(o, .inr (7, [.int 0, .int (nI n), .ref ml, .ref mm, .ref mw, .ref mc, .int (nI k), .ref mg, .ref md, .int so, .int fo, .ref mb, .long bb, .long bc, .ref mt, .long be, .ref mr, .int (nI rs), .ref mo, .int (nI rc), .ref mx, .ref mp, .ref nk, .ref na, .ref nv, .ref nf, .ref ns, .ref ne, .ref nw, .ref mf])), (ml, .inl (cI, 4, .inl lo)), (mm, .inl (cI, 4, .inl hi)), (mw, .inl (cZ, 4, .inl wh)), (mc, .inl (cI, 4, .inl co)), (mg, .inl (cI, 24, .inl wt)), (md, .inl (cI, 6, .inl bd)), (nk, .inl (cI, 40, .inl kd)), (na, .inl (cI, 40, .inl fa)), (nv, .inl (cI, 40, .inl fv)), (nf, .inl (cI, 40, .inl fi)), (ns, .inl (cI, 40, .inl se)), (ne, .inl (cL, 280, .inr (.inl en))), (nw, .inl (cI, 900, .inl wa2))] H → va_D A [(o, .inr (7, [.int 0, .int (nI n), .ref ml, .ref mm, .ref mw, .ref mc, .int (nI k), .ref mg, .ref md, .int so, .int fo, .ref mb, .long bb, .long bc, .ref mt, .long be, .ref mr, .int (nI rs), .ref mo, .int (nI rc), .ref mx, .ref mp, .ref nk, .ref na, .ref nv, .ref nf, .ref ns, .ref ne, .ref nw, .ref mf])), (ml, .inl (cI, 4, .inl lo)), (mm, .inl (cI, 4, .inl hi)), (mw, .inl (cZ, 4, .inl wh)), (mc, .inl (cI, 4, .inl co)), (mg, .inl (cI, 24, .inl wt)), (md, .inl (cI, 6, .inl bd)), (nk, .inl (cI, 40, .inl kd)), (na, .inl (cI, 40, .inl fa)), (nv, .inl (cI, 40, .inl fv)), (nf, .inl (cI, 40, .inl fi)), (ns, .inl (cI, 40, .inl se)), (ne, .inl (cL, 280, .inr (.inl en))), (nw, .inl (cI, 900, .inl wa2))] → va_S A s.heap H locs → W p l e (headSpec ww_Model_sound ({ frames := 1, cells := 0, slots := 0, locals := 34 } : Room)).room s m ([.ref o, .int pv, .int qv]).toArray below meth c H locs 0 0 (MQ below (qq_Model_sound D cI cZ cL cQ o ml mm mw mc mg md mb mt mr mo mx mp nk na nv nf ns ne nw mf thr n k so fo bb bc be rs rc pv qv lo hi wh co wt bd kd fa fv fi se en wa fan fin sen A) ([.ref o, .int pv, .int qv]).toArray s 0 0 A) (F0 m 160 ls []) := by
                      intro  hk1 ls H locs hl hP hD hS
                      refine lv_aload_n hx hb dd_Model_sound_160 rfl (lv_at hl 0 rfl) ?_
                      refine va_get (D := D) (ci := 7) (v := .ref na) (C := RR_Model) (T := FF_Model) (N := 30) hx hb htb hi_Model hown hK hP 0 rfl rfl 23 (by decide) hf_55 (fun _ h9 => h9) rfl dd_Model_sound_161 ?_
                      refine lv_iload hx hb dd_Model_sound_164 (lv_at hl 5 rfl) ?_
                      refine mm_iald hx hb hK hP 8 0 rfl rfl (nd) (rfl) (by omega) (by first | decide | omega) dd_Model_sound_166 ?_
                      refine mm_topi (y := nI (fan nd)) ((hfa nd hnd).1) ?_
                      have hfj : fan nd < 4 := (hfa nd hnd).2
                      refine lv_istore (lv' := [(6, .int (nI (fan nd))), (0, .ref o), (1, .int pv), (2, .int qv), (3, .int (nI m9)), (4, .int (nI (9 * m9))), (5, .int (nI nd))]) hx hb dd_Model_sound_167 hl (by decide) rfl (fun ls hl => ?_)
                      refine lv_aload_n hx hb dd_Model_sound_169 rfl (lv_at hl 1 rfl) ?_
                      refine va_get (D := D) (ci := 7) (v := .ref nv) (C := RR_Model) (T := FF_Model) (N := 30) hx hb htb hi_Model hown hK hP 0 rfl rfl 24 (by decide) hf_58 (fun _ h9 => h9) rfl dd_Model_sound_170 ?_
                      refine lv_iload hx hb dd_Model_sound_173 (lv_at hl 6 rfl) ?_
                      refine mm_iald hx hb hK hP 9 0 rfl rfl (nd) (rfl) (by omega) (by first | decide | omega) dd_Model_sound_175 ?_
                      refine lv_istore (lv' := [(7, .int (fv nd)), (6, .int (nI (fan nd))), (0, .ref o), (1, .int pv), (2, .int qv), (3, .int (nI m9)), (4, .int (nI (9 * m9))), (5, .int (nI nd))]) hx hb dd_Model_sound_176 hl (by decide) rfl (fun ls hl => ?_)
                      refine lv_iload hx hb dd_Model_sound_178 (lv_at hl 1 rfl) ?_
                      refine lv_aload_n hx hb dd_Model_sound_180 rfl (lv_at hl 2 rfl) ?_
                      refine va_get (D := D) (ci := 7) (v := .int (nI n)) (C := RR_Model) (T := FF_Model) (N := 30) hx hb htb hi_Model hown hK hP 0 rfl rfl 1 (by decide) hf_7 (fun _ h9 => h9) rfl dd_Model_sound_181 ?_
                      refine lv_icmp_ge (tgt := 231) hx hb dd_Model_sound_184 (by decide) (fun h184 => ?_) (fun h184 => ?_)
                      · skip
                        have h184 : n ≤ fan nd := (nI_leI (a := n) (b := fan nd) (by omega) (by omega)).mp h184
                        refine lv_iconst (v := 0) hx hb dd_Model_sound_231 (by decide) ?_
                        exact W.zret (v := (0 : Int32)) hx hb hr (rfl) (fun t ht hW => ⟨⟨(0 : Int32), wa2, rfl, so_no hv2 (so_nd hne hnd (so_x hu hnd hk1 hfj (by first | exact fun q => absurd q.1 (by omega) | exact fun q => q.2.1 h194 | exact fun q => q.2.2.1 h211 | exact fun q => h228 q.2.2.2))), by rw [ht]; exact hP, va_K.moved hW.alike hK, hD⟩, hS.F ht⟩) hS.2.2 dd_Model_sound_232
                      · skip
                        have h184 : ¬ (n ≤ fan nd) := fun q9 => h184 ((nI_leI (a := n) (b := fan nd) (by omega) (by omega)).mpr q9)
                        refine lv_aload_n hx hb dd_Model_sound_187 rfl (lv_at hl 2 rfl) ?_
                        refine va_get (D := D) (ci := 7) (v := .ref mw) (C := RR_Model) (T := FF_Model) (N := 30) hx hb htb hi_Model hown hK hP 0 rfl rfl 4 (by decide) hf_20 (fun _ h9 => h9) rfl dd_Model_sound_188 ?_
                        refine lv_iload hx hb dd_Model_sound_191 (lv_at hl 1 rfl) ?_
                        refine mm_zald hx hb hK hP 3 1 rfl rfl (fan nd) (rfl) (by omega) (by first | decide | omega) dd_Model_sound_193 ?_
                        refine lv_if_eq (tgt := 231) hx hb dd_Model_sound_194 (by decide) (fun h194 => ?_) (fun h194 => ?_)
                        · skip
                          refine lv_iconst (v := 0) hx hb dd_Model_sound_231 (by decide) ?_
                          exact W.zret (v := (0 : Int32)) hx hb hr (rfl) (fun t ht hW => ⟨⟨(0 : Int32), wa2, rfl, so_no hv2 (so_nd hne hnd (so_x hu hnd hk1 hfj (by first | exact fun q => absurd q.1 (by omega) | exact fun q => q.2.1 h194 | exact fun q => q.2.2.1 h211 | exact fun q => h228 q.2.2.2))), by rw [ht]; exact hP, va_K.moved hW.alike hK, hD⟩, hS.F ht⟩) hS.2.2 dd_Model_sound_232
                        · skip
                          refine lv_iload hx hb dd_Model_sound_197 (lv_at hl 0 rfl) ?_
                          refine lv_aload_n hx hb dd_Model_sound_199 rfl (lv_at hl 2 rfl) ?_
                          refine va_get (D := D) (ci := 7) (v := .ref nw) (C := RR_Model) (T := FF_Model) (N := 30) hx hb htb hi_Model hown hK hP 0 rfl rfl 28 (by decide) hf_70 (fun _ h9 => h9) rfl dd_Model_sound_200 ?_
                          refine lv_iload hx hb dd_Model_sound_203 (lv_at hl 6 rfl) ?_
                          refine lv_iconst (v := 1) hx hb dd_Model_sound_205 (by decide) ?_
                          refine lv_iadd hx hb dd_Model_sound_206 ?_
                          refine mm_topi (y := nI ((9 * m9) + 1)) (nI_add (9 * m9) 1) ?_
                          refine lv_iload hx hb dd_Model_sound_207 (lv_at hl 1 rfl) ?_
                          refine lv_iadd hx hb dd_Model_sound_209 ?_
                          refine mm_topi (y := nI (((9 * m9) + 1) + (fan nd))) (nI_add ((9 * m9) + 1) (fan nd)) ?_
                          refine mm_iald hx hb hK hP 13 0 rfl rfl (((9 * m9) + 1) + (fan nd)) (rfl) (by omega) (by first | decide | omega) dd_Model_sound_210 ?_
                          refine lv_icmp_lt (tgt := 231) hx hb dd_Model_sound_211 (by decide) (fun h211 => ?_) (fun h211 => ?_)
                          · skip
                            refine lv_iconst (v := 0) hx hb dd_Model_sound_231 (by decide) ?_
                            exact W.zret (v := (0 : Int32)) hx hb hr (rfl) (fun t ht hW => ⟨⟨(0 : Int32), wa2, rfl, so_no hv2 (so_nd hne hnd (so_x hu hnd hk1 hfj (by first | exact fun q => absurd q.1 (by omega) | exact fun q => q.2.1 h194 | exact fun q => q.2.2.1 h211 | exact fun q => h228 q.2.2.2))), by rw [ht]; exact hP, va_K.moved hW.alike hK, hD⟩, hS.F ht⟩) hS.2.2 dd_Model_sound_232
                          · skip
                            refine lv_iload hx hb dd_Model_sound_214 (lv_at hl 0 rfl) ?_
                            refine lv_aload_n hx hb dd_Model_sound_216 rfl (lv_at hl 2 rfl) ?_
                            refine va_get (D := D) (ci := 7) (v := .ref nw) (C := RR_Model) (T := FF_Model) (N := 30) hx hb htb hi_Model hown hK hP 0 rfl rfl 28 (by decide) hf_70 (fun _ h9 => h9) rfl dd_Model_sound_217 ?_
                            refine lv_iload hx hb dd_Model_sound_220 (lv_at hl 6 rfl) ?_
                            refine lv_iconst (v := 5) hx hb dd_Model_sound_222 (by decide) ?_
                            refine lv_iadd hx hb dd_Model_sound_223 ?_
                            refine mm_topi (y := nI ((9 * m9) + 5)) (nI_add (9 * m9) 5) ?_
                            refine lv_iload hx hb dd_Model_sound_224 (lv_at hl 1 rfl) ?_
                            refine lv_iadd hx hb dd_Model_sound_226 ?_
                            refine mm_topi (y := nI (((9 * m9) + 5) + (fan nd))) (nI_add ((9 * m9) + 5) (fan nd)) ?_
                            refine mm_iald hx hb hK hP 13 0 rfl rfl (((9 * m9) + 5) + (fan nd)) (rfl) (by omega) (by first | decide | omega) dd_Model_sound_227 ?_
                            refine lv_icmp_lt (tgt := 233) hx hb dd_Model_sound_228 (by decide) (fun h228 => ?_) (fun h228 => ?_)
                            · skip
                              refine lv_iconst (v := 0) hx hb dd_Model_sound_233 (by decide) ?_
                              refine lv_istore (lv' := [(8, .int (0 : Int32)), (7, .int (fv nd)), (6, .int (nI (fan nd))), (0, .ref o), (1, .int pv), (2, .int qv), (3, .int (nI m9)), (4, .int (nI (9 * m9))), (5, .int (nI nd))]) hx hb dd_Model_sound_234 hl (by decide) rfl (fun ls hl => ?_)
                              have J236 : ∀ (N : Nat) (t9 : Nat) (wa3 : Nat → Int32), (9 - t9) < N → ∀ (ht9 : t9 ≤ 9) (hq3 : wa3 = cq_f wa2 (9 * m9) t9), ∀ (ls : Array Slot) (H : Heap) (locs : List Loc), lv_has ls 9 [(0, .ref o), (1, .int pv), (2, .int qv), (3, .int (nI m9)), (4, .int (nI (9 * m9))), (5, .int (nI nd)), (6, .int (nI (fan nd))), (7, .int (fv nd)), (8, .int (nI t9))] → va_P D kc_all [(o, .inr (7, [.int 0, .int (nI n), .ref ml, .ref mm, .ref mw, .ref mc, .int (nI k), .ref mg, .ref md, .int so, .int fo, .ref mb, .long bb, .long bc, .ref mt, .long be, .ref mr, .int (nI rs), .ref mo, .int (nI rc), .ref mx, .ref mp, .ref nk, .ref na, .ref nv, .ref nf, .ref ns, .ref ne, .ref nw, .ref mf])), (ml, .inl (cI, 4, .inl lo)), (mm, .inl (cI, 4, .inl hi)), (mw, .inl (cZ, 4, .inl wh)), (mc, .inl (cI, 4, .inl co)), (mg, .inl (cI, 24, .inl wt)), (md, .inl (cI, 6, .inl bd)), (nk, .inl (cI, 40, .inl kd)), (na, .inl (cI, 40, .inl fa)), (nv, .inl (cI, 40, .inl fv)), (nf, .inl (cI, 40, .inl fi)), (ns, .inl (cI, 40, .inl se)), (ne, .inl (cL, 280, .inr (.inl en))), (nw, .inl (cI, 900, .inl wa3))] H → va_D A [(o, .inr (7, [.int 0, .int (nI n), .ref ml, .ref mm, .ref mw, .ref mc, .int (nI k), .ref mg, .ref md, .int so, .int fo, .ref mb, .long bb, .long bc, .ref mt, .long be, .ref mr, .int (nI rs), .ref mo, .int (nI rc), .ref mx, .ref mp, .ref nk, .ref na, .ref nv, .ref nf, .ref ns, .ref ne, .ref nw, .ref mf])), (ml, .inl (cI, 4, .inl lo)), (mm, .inl (cI, 4, .inl hi)), (mw, .inl (cZ, 4, .inl wh)), (mc, .inl (cI, 4, .inl co)), (mg, .inl (cI, 24, .inl wt)), (md, .inl (cI, 6, .inl bd)), (nk, .inl (cI, 40, .inl kd)), (na, .inl (cI, 40, .inl fa)), (nv, .inl (cI, 40, .inl fv)), (nf, .inl (cI, 40, .inl fi)), (ns, .inl (cI, 40, .inl se)), (ne, .inl (cL, 280, .inr (.inl en))), (nw, .inl (cI, 900, .inl wa3))] → va_S A s.heap H locs → W p l e (headSpec ww_Model_sound ({ frames := 1, cells := 0, slots := 0, locals := 34 } : Room)).room s m ([.ref o, .int pv, .int qv]).toArray below meth c H locs 0 0 (MQ below (qq_Model_sound D cI cZ cL cQ o ml mm mw mc mg md mb mt mr mo mx mp nk na nv nf ns ne nw mf thr n k so fo bb bc be rs rc pv qv lo hi wh co wt bd kd fa fv fi se en wa fan fin sen A) ([.ref o, .int pv, .int qv]).toArray s 0 0 A) (F0 m 236 ls []) := by
                                intro N
                                induction N with
                                | zero => intro t9 wa3 hN9; exact absurd hN9 (Nat.not_lt_zero _)
                                | succ N IH236 =>
                                  intro t9 wa3 hN9 ht9 hq3 ls H locs hl hP hD hS
                                  refine lv_iload hx hb dd_Model_sound_236 (lv_at hl 8 rfl) ?_
                                  refine lv_bipush (v := 9) hx hb dd_Model_sound_238 (by decide) ?_
                                  refine lv_icmp_ge (tgt := 272) hx hb dd_Model_sound_240 (by decide) (fun h240 => ?_) (fun h240 => ?_)
                                  · skip
                                    have h240 : 9 ≤ t9 := (nI_leI (a := 9) (b := t9) (by omega) (by omega)).mp h240
                                    have e9 : t9 = 9 := by omega
                                    rw [hq3, e9] at hP hD
                                    have hP : va_P D kc_all [(o, .inr (7, [.int 0, .int (nI n), .ref ml, .ref mm, .ref mw, .ref mc, .int (nI k), .ref mg, .ref md, .int so, .int fo, .ref mb, .long bb, .long bc, .ref mt, .long be, .ref mr, .int (nI rs), .ref mo, .int (nI rc), .ref mx, .ref mp, .ref nk, .ref na, .ref nv, .ref nf, .ref ns, .ref ne, .ref nw, .ref mf])), (ml, .inl (cI, 4, .inl lo)), (mm, .inl (cI, 4, .inl hi)), (mw, .inl (cZ, 4, .inl wh)), (mc, .inl (cI, 4, .inl co)), (mg, .inl (cI, 24, .inl wt)), (md, .inl (cI, 6, .inl bd)), (nk, .inl (cI, 40, .inl kd)), (na, .inl (cI, 40, .inl fa)), (nv, .inl (cI, 40, .inl fv)), (nf, .inl (cI, 40, .inl fi)), (ns, .inl (cI, 40, .inl se)), (ne, .inl (cL, 280, .inr (.inl en))), (nw, .inl (cI, 900, .inl (cq_f wa2 (9 * m9) 9)))] H := hP
                                    have hD : va_D A [(o, .inr (7, [.int 0, .int (nI n), .ref ml, .ref mm, .ref mw, .ref mc, .int (nI k), .ref mg, .ref md, .int so, .int fo, .ref mb, .long bb, .long bc, .ref mt, .long be, .ref mr, .int (nI rs), .ref mo, .int (nI rc), .ref mx, .ref mp, .ref nk, .ref na, .ref nv, .ref nf, .ref ns, .ref ne, .ref nw, .ref mf])), (ml, .inl (cI, 4, .inl lo)), (mm, .inl (cI, 4, .inl hi)), (mw, .inl (cZ, 4, .inl wh)), (mc, .inl (cI, 4, .inl co)), (mg, .inl (cI, 24, .inl wt)), (md, .inl (cI, 6, .inl bd)), (nk, .inl (cI, 40, .inl kd)), (na, .inl (cI, 40, .inl fa)), (nv, .inl (cI, 40, .inl fv)), (nf, .inl (cI, 40, .inl fi)), (ns, .inl (cI, 40, .inl se)), (ne, .inl (cL, 280, .inr (.inl en))), (nw, .inl (cI, 900, .inl (cq_f wa2 (9 * m9) 9)))] := hD
                                    refine lv_aload_n hx hb dd_Model_sound_272 rfl (lv_at hl 0 rfl) ?_
                                    refine va_get (D := D) (ci := 7) (v := .ref nw) (C := RR_Model) (T := FF_Model) (N := 30) hx hb htb hi_Model hown hK hP 0 rfl rfl 28 (by decide) hf_70 (fun _ h9 => h9) rfl dd_Model_sound_273 ?_
                                    refine lv_iload hx hb dd_Model_sound_276 (lv_at hl 4 rfl) ?_
                                    refine lv_aload_n hx hb dd_Model_sound_278 rfl (lv_at hl 0 rfl) ?_
                                    refine va_get (D := D) (ci := 7) (v := .ref nf) (C := RR_Model) (T := FF_Model) (N := 30) hx hb htb hi_Model hown hK hP 0 rfl rfl 25 (by decide) hf_61 (fun _ h9 => h9) rfl dd_Model_sound_279 ?_
                                    refine lv_iload hx hb dd_Model_sound_282 (lv_at hl 5 rfl) ?_
                                    refine mm_iald hx hb hK hP 10 0 rfl rfl (nd) (rfl) (by omega) (by first | decide | omega) dd_Model_sound_284 ?_
                                    refine mm_topi (y := nI (fin nd)) (hfi nd hnd) ?_
                                    refine mm_iast hx hb hK hP hD hS 13 0 rfl rfl (9 * m9) (rfl) (by omega) (by first | decide | omega) dd_Model_sound_285 (fun H locs hP hD hS => ?_)
                                    have hP : va_P D kc_all [(o, .inr (7, [.int 0, .int (nI n), .ref ml, .ref mm, .ref mw, .ref mc, .int (nI k), .ref mg, .ref md, .int so, .int fo, .ref mb, .long bb, .long bc, .ref mt, .long be, .ref mr, .int (nI rs), .ref mo, .int (nI rc), .ref mx, .ref mp, .ref nk, .ref na, .ref nv, .ref nf, .ref ns, .ref ne, .ref nw, .ref mf])), (ml, .inl (cI, 4, .inl lo)), (mm, .inl (cI, 4, .inl hi)), (mw, .inl (cZ, 4, .inl wh)), (mc, .inl (cI, 4, .inl co)), (mg, .inl (cI, 24, .inl wt)), (md, .inl (cI, 6, .inl bd)), (nk, .inl (cI, 40, .inl kd)), (na, .inl (cI, 40, .inl fa)), (nv, .inl (cI, 40, .inl fv)), (nf, .inl (cI, 40, .inl fi)), (ns, .inl (cI, 40, .inl se)), (ne, .inl (cL, 280, .inr (.inl en))), (nw, .inl (cI, 900, .inl (upd (cq_f wa2 (9 * m9) 9) (9 * m9) (nI (fin nd)))))] H := hP
                                    have hD : va_D A [(o, .inr (7, [.int 0, .int (nI n), .ref ml, .ref mm, .ref mw, .ref mc, .int (nI k), .ref mg, .ref md, .int so, .int fo, .ref mb, .long bb, .long bc, .ref mt, .long be, .ref mr, .int (nI rs), .ref mo, .int (nI rc), .ref mx, .ref mp, .ref nk, .ref na, .ref nv, .ref nf, .ref ns, .ref ne, .ref nw, .ref mf])), (ml, .inl (cI, 4, .inl lo)), (mm, .inl (cI, 4, .inl hi)), (mw, .inl (cZ, 4, .inl wh)), (mc, .inl (cI, 4, .inl co)), (mg, .inl (cI, 24, .inl wt)), (md, .inl (cI, 6, .inl bd)), (nk, .inl (cI, 40, .inl kd)), (na, .inl (cI, 40, .inl fa)), (nv, .inl (cI, 40, .inl fv)), (nf, .inl (cI, 40, .inl fi)), (ns, .inl (cI, 40, .inl se)), (ne, .inl (cL, 280, .inr (.inl en))), (nw, .inl (cI, 900, .inl (upd (cq_f wa2 (9 * m9) 9) (9 * m9) (nI (fin nd)))))] := hD
                                    refine lv_aload_n hx hb dd_Model_sound_286 rfl (lv_at hl 0 rfl) ?_
                                    refine va_get (D := D) (ci := 7) (v := .ref nw) (C := RR_Model) (T := FF_Model) (N := 30) hx hb htb hi_Model hown hK hP 0 rfl rfl 28 (by decide) hf_70 (fun _ h9 => h9) rfl dd_Model_sound_287 ?_
                                    refine lv_iload hx hb dd_Model_sound_290 (lv_at hl 4 rfl) ?_
                                    refine lv_iconst (v := 5) hx hb dd_Model_sound_292 (by decide) ?_
                                    refine lv_iadd hx hb dd_Model_sound_293 ?_
                                    refine mm_topi (y := nI ((9 * m9) + 5)) (nI_add (9 * m9) 5) ?_
                                    refine lv_iload hx hb dd_Model_sound_294 (lv_at hl 6 rfl) ?_
                                    refine lv_iadd hx hb dd_Model_sound_296 ?_
                                    refine mm_topi (y := nI (((9 * m9) + 5) + (fan nd))) (nI_add ((9 * m9) + 5) (fan nd)) ?_
                                    refine lv_iload hx hb dd_Model_sound_297 (lv_at hl 7 rfl) ?_
                                    refine mm_iast hx hb hK hP hD hS 13 0 rfl rfl (((9 * m9) + 5) + (fan nd)) (rfl) (by omega) (by first | decide | omega) dd_Model_sound_299 (fun H locs hP hD hS => ?_)
                                    have hP : va_P D kc_all [(o, .inr (7, [.int 0, .int (nI n), .ref ml, .ref mm, .ref mw, .ref mc, .int (nI k), .ref mg, .ref md, .int so, .int fo, .ref mb, .long bb, .long bc, .ref mt, .long be, .ref mr, .int (nI rs), .ref mo, .int (nI rc), .ref mx, .ref mp, .ref nk, .ref na, .ref nv, .ref nf, .ref ns, .ref ne, .ref nw, .ref mf])), (ml, .inl (cI, 4, .inl lo)), (mm, .inl (cI, 4, .inl hi)), (mw, .inl (cZ, 4, .inl wh)), (mc, .inl (cI, 4, .inl co)), (mg, .inl (cI, 24, .inl wt)), (md, .inl (cI, 6, .inl bd)), (nk, .inl (cI, 40, .inl kd)), (na, .inl (cI, 40, .inl fa)), (nv, .inl (cI, 40, .inl fv)), (nf, .inl (cI, 40, .inl fi)), (ns, .inl (cI, 40, .inl se)), (ne, .inl (cL, 280, .inr (.inl en))), (nw, .inl (cI, 900, .inl (upd (upd (cq_f wa2 (9 * m9) 9) (9 * m9) (nI (fin nd))) (((9 * m9) + 5) + (fan nd)) (fv nd))))] H := hP
                                    have hD : va_D A [(o, .inr (7, [.int 0, .int (nI n), .ref ml, .ref mm, .ref mw, .ref mc, .int (nI k), .ref mg, .ref md, .int so, .int fo, .ref mb, .long bb, .long bc, .ref mt, .long be, .ref mr, .int (nI rs), .ref mo, .int (nI rc), .ref mx, .ref mp, .ref nk, .ref na, .ref nv, .ref nf, .ref ns, .ref ne, .ref nw, .ref mf])), (ml, .inl (cI, 4, .inl lo)), (mm, .inl (cI, 4, .inl hi)), (mw, .inl (cZ, 4, .inl wh)), (mc, .inl (cI, 4, .inl co)), (mg, .inl (cI, 24, .inl wt)), (md, .inl (cI, 6, .inl bd)), (nk, .inl (cI, 40, .inl kd)), (na, .inl (cI, 40, .inl fa)), (nv, .inl (cI, 40, .inl fv)), (nf, .inl (cI, 40, .inl fi)), (ns, .inl (cI, 40, .inl se)), (ne, .inl (cL, 280, .inr (.inl en))), (nw, .inl (cI, 900, .inl (upd (upd (cq_f wa2 (9 * m9) 9) (9 * m9) (nI (fin nd))) (((9 * m9) + 5) + (fan nd)) (fv nd))))] := hD
                                    refine lv_aload_n hx hb dd_Model_sound_300 rfl (lv_at hl 0 rfl) ?_
                                    refine va_get (D := D) (ci := 7) (v := .ref nw) (C := RR_Model) (T := FF_Model) (N := 30) hx hb htb hi_Model hown hK hP 0 rfl rfl 28 (by decide) hf_70 (fun _ h9 => h9) rfl dd_Model_sound_301 ?_
                                    refine lv_iload hx hb dd_Model_sound_304 (lv_at hl 4 rfl) ?_
                                    refine lv_bipush (v := 9) hx hb dd_Model_sound_306 (by decide) ?_
                                    refine lv_iadd hx hb dd_Model_sound_308 ?_
                                    refine mm_topi (y := nI ((9 * m9) + 9)) (nI_add (9 * m9) 9) ?_
                                    refine lv_aload_n hx hb dd_Model_sound_309 rfl (lv_at hl 0 rfl) ?_
                                    refine va_get (D := D) (ci := 7) (v := .ref ns) (C := RR_Model) (T := FF_Model) (N := 30) hx hb htb hi_Model hown hK hP 0 rfl rfl 26 (by decide) hf_64 (fun _ h9 => h9) rfl dd_Model_sound_310 ?_
                                    refine lv_iload hx hb dd_Model_sound_313 (lv_at hl 5 rfl) ?_
                                    refine mm_iald hx hb hK hP 11 0 rfl rfl (nd) (rfl) (by omega) (by first | decide | omega) dd_Model_sound_315 ?_
                                    refine mm_topi (y := nI (sen nd)) (hse nd hnd) ?_
                                    refine mm_iast hx hb hK hP hD hS 13 0 rfl rfl ((9 * m9) + 9) (rfl) (by omega) (by first | decide | omega) dd_Model_sound_316 (fun H locs hP hD hS => ?_)
                                    have hP : va_P D kc_all [(o, .inr (7, [.int 0, .int (nI n), .ref ml, .ref mm, .ref mw, .ref mc, .int (nI k), .ref mg, .ref md, .int so, .int fo, .ref mb, .long bb, .long bc, .ref mt, .long be, .ref mr, .int (nI rs), .ref mo, .int (nI rc), .ref mx, .ref mp, .ref nk, .ref na, .ref nv, .ref nf, .ref ns, .ref ne, .ref nw, .ref mf])), (ml, .inl (cI, 4, .inl lo)), (mm, .inl (cI, 4, .inl hi)), (mw, .inl (cZ, 4, .inl wh)), (mc, .inl (cI, 4, .inl co)), (mg, .inl (cI, 24, .inl wt)), (md, .inl (cI, 6, .inl bd)), (nk, .inl (cI, 40, .inl kd)), (na, .inl (cI, 40, .inl fa)), (nv, .inl (cI, 40, .inl fv)), (nf, .inl (cI, 40, .inl fi)), (ns, .inl (cI, 40, .inl se)), (ne, .inl (cL, 280, .inr (.inl en))), (nw, .inl (cI, 900, .inl (upd (upd (upd (cq_f wa2 (9 * m9) 9) (9 * m9) (nI (fin nd))) (((9 * m9) + 5) + (fan nd)) (fv nd)) ((9 * m9) + 9) (nI (sen nd)))))] H := hP
                                    have hD : va_D A [(o, .inr (7, [.int 0, .int (nI n), .ref ml, .ref mm, .ref mw, .ref mc, .int (nI k), .ref mg, .ref md, .int so, .int fo, .ref mb, .long bb, .long bc, .ref mt, .long be, .ref mr, .int (nI rs), .ref mo, .int (nI rc), .ref mx, .ref mp, .ref nk, .ref na, .ref nv, .ref nf, .ref ns, .ref ne, .ref nw, .ref mf])), (ml, .inl (cI, 4, .inl lo)), (mm, .inl (cI, 4, .inl hi)), (mw, .inl (cZ, 4, .inl wh)), (mc, .inl (cI, 4, .inl co)), (mg, .inl (cI, 24, .inl wt)), (md, .inl (cI, 6, .inl bd)), (nk, .inl (cI, 40, .inl kd)), (na, .inl (cI, 40, .inl fa)), (nv, .inl (cI, 40, .inl fv)), (nf, .inl (cI, 40, .inl fi)), (ns, .inl (cI, 40, .inl se)), (ne, .inl (cL, 280, .inr (.inl en))), (nw, .inl (cI, 900, .inl (upd (upd (upd (cq_f wa2 (9 * m9) 9) (9 * m9) (nI (fin nd))) (((9 * m9) + 5) + (fan nd)) (fv nd)) ((9 * m9) + 9) (nI (sen nd)))))] := hD
                                    refine lv_aload_n hx hb dd_Model_sound_317 rfl (lv_at hl 0 rfl) ?_
                                    refine va_get (D := D) (ci := 7) (v := .ref nw) (C := RR_Model) (T := FF_Model) (N := 30) hx hb htb hi_Model hown hK hP 0 rfl rfl 28 (by decide) hf_70 (fun _ h9 => h9) rfl dd_Model_sound_318 ?_
                                    refine lv_iload hx hb dd_Model_sound_321 (lv_at hl 4 rfl) ?_
                                    refine lv_bipush (v := 9) hx hb dd_Model_sound_323 (by decide) ?_
                                    refine lv_iadd hx hb dd_Model_sound_325 ?_
                                    refine mm_topi (y := nI ((9 * m9) + 9)) (nI_add (9 * m9) 9) ?_
                                    refine lv_iconst (v := 1) hx hb dd_Model_sound_326 (by decide) ?_
                                    refine lv_iadd hx hb dd_Model_sound_327 ?_
                                    refine mm_topi (y := nI (((9 * m9) + 9) + 1)) (nI_add ((9 * m9) + 9) 1) ?_
                                    refine lv_iload hx hb dd_Model_sound_328 (lv_at hl 6 rfl) ?_
                                    refine lv_iadd hx hb dd_Model_sound_330 ?_
                                    refine mm_topi (y := nI ((((9 * m9) + 9) + 1) + (fan nd))) (nI_add (((9 * m9) + 9) + 1) (fan nd)) ?_
                                    refine lv_iload hx hb dd_Model_sound_331 (lv_at hl 7 rfl) ?_
                                    refine lv_iconst (v := 1) hx hb dd_Model_sound_333 (by decide) ?_
                                    refine lv_iadd hx hb dd_Model_sound_334 ?_
                                    refine mm_iast hx hb hK hP hD hS 13 0 rfl rfl ((((9 * m9) + 9) + 1) + (fan nd)) (rfl) (by omega) (by first | decide | omega) dd_Model_sound_335 (fun H locs hP hD hS => ?_)
                                    have hP : va_P D kc_all [(o, .inr (7, [.int 0, .int (nI n), .ref ml, .ref mm, .ref mw, .ref mc, .int (nI k), .ref mg, .ref md, .int so, .int fo, .ref mb, .long bb, .long bc, .ref mt, .long be, .ref mr, .int (nI rs), .ref mo, .int (nI rc), .ref mx, .ref mp, .ref nk, .ref na, .ref nv, .ref nf, .ref ns, .ref ne, .ref nw, .ref mf])), (ml, .inl (cI, 4, .inl lo)), (mm, .inl (cI, 4, .inl hi)), (mw, .inl (cZ, 4, .inl wh)), (mc, .inl (cI, 4, .inl co)), (mg, .inl (cI, 24, .inl wt)), (md, .inl (cI, 6, .inl bd)), (nk, .inl (cI, 40, .inl kd)), (na, .inl (cI, 40, .inl fa)), (nv, .inl (cI, 40, .inl fv)), (nf, .inl (cI, 40, .inl fi)), (ns, .inl (cI, 40, .inl se)), (ne, .inl (cL, 280, .inr (.inl en))), (nw, .inl (cI, 900, .inl (upd (upd (upd (upd (cq_f wa2 (9 * m9) 9) (9 * m9) (nI (fin nd))) (((9 * m9) + 5) + (fan nd)) (fv nd)) ((9 * m9) + 9) (nI (sen nd))) ((((9 * m9) + 9) + 1) + (fan nd)) ((fv nd) + (1 : Int32)))))] H := hP
                                    have hD : va_D A [(o, .inr (7, [.int 0, .int (nI n), .ref ml, .ref mm, .ref mw, .ref mc, .int (nI k), .ref mg, .ref md, .int so, .int fo, .ref mb, .long bb, .long bc, .ref mt, .long be, .ref mr, .int (nI rs), .ref mo, .int (nI rc), .ref mx, .ref mp, .ref nk, .ref na, .ref nv, .ref nf, .ref ns, .ref ne, .ref nw, .ref mf])), (ml, .inl (cI, 4, .inl lo)), (mm, .inl (cI, 4, .inl hi)), (mw, .inl (cZ, 4, .inl wh)), (mc, .inl (cI, 4, .inl co)), (mg, .inl (cI, 24, .inl wt)), (md, .inl (cI, 6, .inl bd)), (nk, .inl (cI, 40, .inl kd)), (na, .inl (cI, 40, .inl fa)), (nv, .inl (cI, 40, .inl fv)), (nf, .inl (cI, 40, .inl fi)), (ns, .inl (cI, 40, .inl se)), (ne, .inl (cL, 280, .inr (.inl en))), (nw, .inl (cI, 900, .inl (upd (upd (upd (upd (cq_f wa2 (9 * m9) 9) (9 * m9) (nI (fin nd))) (((9 * m9) + 5) + (fan nd)) (fv nd)) ((9 * m9) + 9) (nI (sen nd))) ((((9 * m9) + 9) + 1) + (fan nd)) ((fv nd) + (1 : Int32)))))] := hD
                                    have hup := hu nd hnd (so_k1 hk1).1 (so_k1 hk1).2
                                    have hfk := so_fork hv2 hfj hne hnd hup.1 hup.2 hmn (so_y hu hnd hk1 hfj ⟨by omega, h194, h211, h228⟩)
                                    refine lv_iinc (k := 3) (v := nI (m9 + 2)) (lv' := [(3, .int (nI (m9 + 2))), (0, .ref o), (1, .int pv), (2, .int qv), (4, .int (nI (9 * m9))), (5, .int (nI nd)), (6, .int (nI (fan nd))), (7, .int (fv nd)), (8, .int (nI t9))]) hx hb dd_Model_sound_336 hl rfl (nI_add _ 2) (by decide) rfl (fun ls hl => ?_)
                                    refine lv_goto (tgt := 89) hx hb dd_Model_sound_339 (by decide) ?_
                                    exact IH89 (m9 + 2) (upd (upd (upd (upd (cq_f wa2 (9 * m9) 9) (9 * m9) (nI (fin nd))) (((9 * m9) + 5) + (fan nd)) (fv nd)) ((9 * m9) + 9) (nI (sen nd))) ((((9 * m9) + 9) + 1) + (fan nd)) ((fv nd) + (1 : Int32))) (by first | exact Nat.lt_of_lt_of_le hfk.2 (Nat.le_of_lt_succ hN1) | exact Nat.lt_of_lt_of_le so_dec (Nat.le_of_lt_succ hN1)) (by first | exact hfk.1 | exact so_pop hv2 hts9 | exact (so_ab (hkd nd hnd) h118 h157 h129).elim) ls H locs (lv_sub hl [1, 2, 3, 0] rfl) hP hD hS
                                  · skip
                                    have h240 : ¬ (9 ≤ t9) := fun q9 => h240 ((nI_leI (a := 9) (b := t9) (by omega) (by omega)).mpr q9)
                                    refine lv_aload_n hx hb dd_Model_sound_243 rfl (lv_at hl 0 rfl) ?_
                                    refine va_get (D := D) (ci := 7) (v := .ref nw) (C := RR_Model) (T := FF_Model) (N := 30) hx hb htb hi_Model hown hK hP 0 rfl rfl 28 (by decide) hf_70 (fun _ h9 => h9) rfl dd_Model_sound_244 ?_
                                    refine lv_iload hx hb dd_Model_sound_247 (lv_at hl 4 rfl) ?_
                                    refine lv_bipush (v := 9) hx hb dd_Model_sound_249 (by decide) ?_
                                    refine lv_iadd hx hb dd_Model_sound_251 ?_
                                    refine mm_topi (y := nI ((9 * m9) + 9)) (nI_add (9 * m9) 9) ?_
                                    refine lv_iload hx hb dd_Model_sound_252 (lv_at hl 8 rfl) ?_
                                    refine lv_iadd hx hb dd_Model_sound_254 ?_
                                    refine mm_topi (y := nI (((9 * m9) + 9) + t9)) (nI_add ((9 * m9) + 9) t9) ?_
                                    refine lv_aload_n hx hb dd_Model_sound_255 rfl (lv_at hl 0 rfl) ?_
                                    refine va_get (D := D) (ci := 7) (v := .ref nw) (C := RR_Model) (T := FF_Model) (N := 30) hx hb htb hi_Model hown hK hP 0 rfl rfl 28 (by decide) hf_70 (fun _ h9 => h9) rfl dd_Model_sound_256 ?_
                                    refine lv_iload hx hb dd_Model_sound_259 (lv_at hl 4 rfl) ?_
                                    refine lv_iload hx hb dd_Model_sound_261 (lv_at hl 8 rfl) ?_
                                    refine lv_iadd hx hb dd_Model_sound_263 ?_
                                    refine mm_topi (y := nI ((9 * m9) + t9)) (nI_add (9 * m9) t9) ?_
                                    refine mm_iald hx hb hK hP 13 0 rfl rfl ((9 * m9) + t9) (rfl) (by omega) (by first | decide | omega) dd_Model_sound_264 ?_
                                    refine mm_iast hx hb hK hP hD hS 13 0 rfl rfl (((9 * m9) + 9) + t9) (rfl) (by omega) (by first | decide | omega) dd_Model_sound_265 (fun H locs hP hD hS => ?_)
                                    have hP : va_P D kc_all [(o, .inr (7, [.int 0, .int (nI n), .ref ml, .ref mm, .ref mw, .ref mc, .int (nI k), .ref mg, .ref md, .int so, .int fo, .ref mb, .long bb, .long bc, .ref mt, .long be, .ref mr, .int (nI rs), .ref mo, .int (nI rc), .ref mx, .ref mp, .ref nk, .ref na, .ref nv, .ref nf, .ref ns, .ref ne, .ref nw, .ref mf])), (ml, .inl (cI, 4, .inl lo)), (mm, .inl (cI, 4, .inl hi)), (mw, .inl (cZ, 4, .inl wh)), (mc, .inl (cI, 4, .inl co)), (mg, .inl (cI, 24, .inl wt)), (md, .inl (cI, 6, .inl bd)), (nk, .inl (cI, 40, .inl kd)), (na, .inl (cI, 40, .inl fa)), (nv, .inl (cI, 40, .inl fv)), (nf, .inl (cI, 40, .inl fi)), (ns, .inl (cI, 40, .inl se)), (ne, .inl (cL, 280, .inr (.inl en))), (nw, .inl (cI, 900, .inl (upd wa3 (((9 * m9) + 9) + t9) (wa3 ((9 * m9) + t9)))))] H := hP
                                    have hD : va_D A [(o, .inr (7, [.int 0, .int (nI n), .ref ml, .ref mm, .ref mw, .ref mc, .int (nI k), .ref mg, .ref md, .int so, .int fo, .ref mb, .long bb, .long bc, .ref mt, .long be, .ref mr, .int (nI rs), .ref mo, .int (nI rc), .ref mx, .ref mp, .ref nk, .ref na, .ref nv, .ref nf, .ref ns, .ref ne, .ref nw, .ref mf])), (ml, .inl (cI, 4, .inl lo)), (mm, .inl (cI, 4, .inl hi)), (mw, .inl (cZ, 4, .inl wh)), (mc, .inl (cI, 4, .inl co)), (mg, .inl (cI, 24, .inl wt)), (md, .inl (cI, 6, .inl bd)), (nk, .inl (cI, 40, .inl kd)), (na, .inl (cI, 40, .inl fa)), (nv, .inl (cI, 40, .inl fv)), (nf, .inl (cI, 40, .inl fi)), (ns, .inl (cI, 40, .inl se)), (ne, .inl (cL, 280, .inr (.inl en))), (nw, .inl (cI, 900, .inl (upd wa3 (((9 * m9) + 9) + t9) (wa3 ((9 * m9) + t9)))))] := hD
                                    refine lv_iinc (k := 8) (v := nI (t9 + 1)) (lv' := [(8, .int (nI (t9 + 1))), (0, .ref o), (1, .int pv), (2, .int qv), (3, .int (nI m9)), (4, .int (nI (9 * m9))), (5, .int (nI nd)), (6, .int (nI (fan nd))), (7, .int (fv nd))]) hx hb dd_Model_sound_266 hl rfl (nI_1 _) (by decide) rfl (fun ls hl => ?_)
                                    refine lv_goto (tgt := 236) hx hb dd_Model_sound_269 (by decide) ?_
                                    exact IH236 (t9 + 1) (upd wa3 (((9 * m9) + 9) + t9) (wa3 ((9 * m9) + t9))) (by omega) (by omega) (cq_s (by omega) hq3) ls H locs (lv_sub hl [1, 2, 3, 4, 5, 6, 7, 8, 0] rfl) hP hD hS
                              exact J236 _ 0 wa2 (Nat.lt_succ_self _) (by omega) (cq_0) ls H locs (lv_sub hl [3, 4, 5, 6, 7, 8, 2, 1, 0] rfl) hP hD hS
                            · skip
                              refine lv_iconst (v := 0) hx hb dd_Model_sound_231 (by decide) ?_
                              exact W.zret (v := (0 : Int32)) hx hb hr (rfl) (fun t ht hW => ⟨⟨(0 : Int32), wa2, rfl, so_no hv2 (so_nd hne hnd (so_x hu hnd hk1 hfj (by first | exact fun q => absurd q.1 (by omega) | exact fun q => q.2.1 h194 | exact fun q => q.2.2.1 h211 | exact fun q => h228 q.2.2.2))), by rw [ht]; exact hP, va_K.moved hW.alike hK, hD⟩, hS.F ht⟩) hS.2.2 dd_Model_sound_232
                    refine lv_aload_n hx hb dd_Model_sound_111 rfl (lv_at hl 3 rfl) ?_
                    refine va_get (D := D) (ci := 7) (v := .ref nk) (C := RR_Model) (T := FF_Model) (N := 30) hx hb htb hi_Model hown hK hP 0 rfl rfl 22 (by decide) hf_52 (fun _ h9 => h9) rfl dd_Model_sound_112 ?_
                    refine lv_iload hx hb dd_Model_sound_115 (lv_at hl 0 rfl) ?_
                    refine mm_iald hx hb hK hP 7 0 rfl rfl (nd) (rfl) (by omega) (by first | decide | omega) dd_Model_sound_117 ?_
                    refine lv_if_eq (tgt := 147) hx hb dd_Model_sound_118 (by decide) (fun h118 => ?_) (fun h118 => ?_)
                    · skip
                      refine lv_iconst (v := 0) hx hb dd_Model_sound_147 (by decide) ?_
                      exact W.zret (v := (0 : Int32)) hx hb hr (rfl) (fun t ht hW => ⟨⟨(0 : Int32), wa2, rfl, by first | exact so_no hv2 (so_nd hne hnd (tq_z h118)) | exact so_no hv2 (so_nd hne hnd (so_ne hn h118 h129 (tl_0 p141 h144))), by rw [ht]; exact hP, va_K.moved hW.alike hK, hD⟩, hS.F ht⟩) hS.2.2 dd_Model_sound_148
                    · skip
                      refine lv_aload_n hx hb dd_Model_sound_121 rfl (lv_at hl 3 rfl) ?_
                      refine va_get (D := D) (ci := 7) (v := .ref nk) (C := RR_Model) (T := FF_Model) (N := 30) hx hb htb hi_Model hown hK hP 0 rfl rfl 22 (by decide) hf_52 (fun _ h9 => h9) rfl dd_Model_sound_122 ?_
                      refine lv_iload hx hb dd_Model_sound_125 (lv_at hl 0 rfl) ?_
                      refine mm_iald hx hb hK hP 7 0 rfl rfl (nd) (rfl) (by omega) (by first | decide | omega) dd_Model_sound_127 ?_
                      refine lv_iconst (v := 2) hx hb dd_Model_sound_128 (by decide) ?_
                      refine lv_icmp_ne (tgt := 149) hx hb dd_Model_sound_129 (by decide) (fun h129 => ?_) (fun h129 => ?_)
                      · skip
                        refine lv_aload_n hx hb dd_Model_sound_149 rfl (lv_at hl 3 rfl) ?_
                        refine va_get (D := D) (ci := 7) (v := .ref nk) (C := RR_Model) (T := FF_Model) (N := 30) hx hb htb hi_Model hown hK hP 0 rfl rfl 22 (by decide) hf_52 (fun _ h9 => h9) rfl dd_Model_sound_150 ?_
                        refine lv_iload hx hb dd_Model_sound_153 (lv_at hl 0 rfl) ?_
                        refine mm_iald hx hb hK hP 7 0 rfl rfl (nd) (rfl) (by omega) (by first | decide | omega) dd_Model_sound_155 ?_
                        refine lv_iconst (v := 1) hx hb dd_Model_sound_156 (by decide) ?_
                        refine lv_icmp_ne (tgt := 339) hx hb dd_Model_sound_157 (by decide) (fun h157 => ?_) (fun h157 => ?_)
                        · skip
                          refine lv_goto (tgt := 89) hx hb dd_Model_sound_339 (by decide) ?_
                          exact IH89 m9 wa2 (by first | exact Nat.lt_of_lt_of_le hfk.2 (Nat.le_of_lt_succ hN1) | exact Nat.lt_of_lt_of_le so_dec (Nat.le_of_lt_succ hN1)) (by first | exact hfk.1 | exact so_pop hv2 hts9 | exact (so_ab (hkd nd hnd) h118 h157 h129).elim) ls H locs (lv_sub hl [3, 4, 5, 2] rfl) hP hD hS
                        · skip
                          exact J160  (h157) ls H locs (lv_sub hl [3, 4, 5, 2, 1, 0] rfl) hP hD hS
                      · skip
                        refine lv_aload_n hx hb dd_Model_sound_132 rfl (lv_at hl 3 rfl) ?_
                        refine lv_iload hx hb dd_Model_sound_133 (lv_at hl 0 rfl) ?_
                        refine lv_iload hx hb dd_Model_sound_135 (lv_at hl 1 rfl) ?_
                        refine lv_iload_n hx hb dd_Model_sound_137 rfl (lv_at hl 4 rfl) ?_
                        refine lv_i2l (v := pv.toInt64) hx hb dd_Model_sound_138 rfl ?_
                        refine lv_iload_n hx hb dd_Model_sound_139 rfl (lv_at hl 5 rfl) ?_
                        refine lv_i2l (v := qv.toInt64) hx hb dd_Model_sound_140 rfl ?_
                        refine mm_i (wc := [(o, .inr (7, [.int 0, .int (nI n), .ref ml, .ref mm, .ref mw, .ref mc, .int (nI k), .ref mg, .ref md, .int so, .int fo, .ref mb, .long bb, .long bc, .ref mt, .long be, .ref mr, .int (nI rs), .ref mo, .int (nI rc), .ref mx, .ref mp, .ref nk, .ref na, .ref nv, .ref nf, .ref ns, .ref ne, .ref nw, .ref mf])), (mc, .inl (cI, 4, .inl co)), (mg, .inl (cI, 24, .inl wt)), (md, .inl (cI, 6, .inl bd)), (ne, .inl (cL, 280, .inr (.inl en))), (nw, .inl (cI, 900, .inl wa2))]) (wr := [(ml, .inl (cI, 4, .inl lo)), (mm, .inl (cI, 4, .inl hi)), (mw, .inl (cZ, 4, .inl wh)), (nk, .inl (cI, 40, .inl kd)), (na, .inl (cI, 40, .inl fa)), (nv, .inl (cI, 40, .inl fv)), (nf, .inl (cI, 40, .inl fi)), (ns, .inl (cI, 40, .inl se))]) (va_runV (As := [.int (nI nd), .int (nI (9 * m9)), .long pv.toInt64, .long qv.toInt64]) (rest := []) (C := RR_Model) ⟨hx, hb, hml, hown, hts⟩ (cc_Model_isEnd l D cI cZ cL cQ _ o ml mm mw mc mg md mb mt mr mo mx mp nk na nv nf ns ne nw mf 0 n k so fo bb bc be rs rc nd (9 * m9) pv.toInt64 qv.toInt64 co wt bd en wa2 (by omega) (by omega) (by omega) (by omega)) (mm_cwV 4 hts ml_Model_154 im_Model_isEnd se_Model_isEnd ic_Model cd_Model_isEnd rfl rfl (by decide +kernel) ⟨Nat.le_of_ble_eq_true rfl, Nat.le_of_ble_eq_true rfl⟩) (mm_preV hK hP hD [0, 4, 5, 6, 12, 13] (by decide) rfl 0 rfl rfl) rfl rfl hl.1 rfl (lv_room (Nat.le_of_ble_eq_true rfl)) dd_Model_sound_141 ⟨Nat.zero_le _, Nat.zero_le _⟩) hP hD hS hA [0, 4, 5, 6, 12, 13] [1, 2, 3, 7, 8, 9, 10, 11] rfl rfl (by decide) (by decide) (fun zr5 zu6 H locs p141 hP hD hS => ?_)
                        have hP : va_P D kc_all [(ml, .inl (cI, 4, .inl lo)), (mm, .inl (cI, 4, .inl hi)), (mw, .inl (cZ, 4, .inl wh)), (nk, .inl (cI, 40, .inl kd)), (na, .inl (cI, 40, .inl fa)), (nv, .inl (cI, 40, .inl fv)), (nf, .inl (cI, 40, .inl fi)), (ns, .inl (cI, 40, .inl se)), (o, .inr (7, [.int 0, .int (nI n), .ref ml, .ref mm, .ref mw, .ref mc, .int (nI k), .ref mg, .ref md, .int so, .int fo, .ref mb, .long bb, .long bc, .ref mt, .long be, .ref mr, .int (nI rs), .ref mo, .int (nI rc), .ref mx, .ref mp, .ref nk, .ref na, .ref nv, .ref nf, .ref ns, .ref ne, .ref nw, .ref mf])), (mc, .inl (cI, 4, .inl co)), (mg, .inl (cI, 24, .inl wt)), (md, .inl (cI, 6, .inl bd)), (ne, .inl (cL, 280, .inr (.inl en))), (nw, .inl (cI, 900, .inl wa2))] H := hP
                        have hD : va_D A [(ml, .inl (cI, 4, .inl lo)), (mm, .inl (cI, 4, .inl hi)), (mw, .inl (cZ, 4, .inl wh)), (nk, .inl (cI, 40, .inl kd)), (na, .inl (cI, 40, .inl fa)), (nv, .inl (cI, 40, .inl fv)), (nf, .inl (cI, 40, .inl fi)), (ns, .inl (cI, 40, .inl se)), (o, .inr (7, [.int 0, .int (nI n), .ref ml, .ref mm, .ref mw, .ref mc, .int (nI k), .ref mg, .ref md, .int so, .int fo, .ref mb, .long bb, .long bc, .ref mt, .long be, .ref mr, .int (nI rs), .ref mo, .int (nI rc), .ref mx, .ref mp, .ref nk, .ref na, .ref nv, .ref nf, .ref ns, .ref ne, .ref nw, .ref mf])), (mc, .inl (cI, 4, .inl co)), (mg, .inl (cI, 24, .inl wt)), (md, .inl (cI, 6, .inl bd)), (ne, .inl (cL, 280, .inr (.inl en))), (nw, .inl (cI, 900, .inl wa2))] := hD
                        have hP : va_P D kc_all [(o, .inr (7, [.int 0, .int (nI n), .ref ml, .ref mm, .ref mw, .ref mc, .int (nI k), .ref mg, .ref md, .int so, .int fo, .ref mb, .long bb, .long bc, .ref mt, .long be, .ref mr, .int (nI rs), .ref mo, .int (nI rc), .ref mx, .ref mp, .ref nk, .ref na, .ref nv, .ref nf, .ref ns, .ref ne, .ref nw, .ref mf])), (ml, .inl (cI, 4, .inl lo)), (mm, .inl (cI, 4, .inl hi)), (mw, .inl (cZ, 4, .inl wh)), (mc, .inl (cI, 4, .inl co)), (mg, .inl (cI, 24, .inl wt)), (md, .inl (cI, 6, .inl bd)), (nk, .inl (cI, 40, .inl kd)), (na, .inl (cI, 40, .inl fa)), (nv, .inl (cI, 40, .inl fv)), (nf, .inl (cI, 40, .inl fi)), (ns, .inl (cI, 40, .inl se)), (ne, .inl (cL, 280, .inr (.inl en))), (nw, .inl (cI, 900, .inl wa2))] H := hP.sub [8, 0, 1, 2, 9, 10, 11, 3, 4, 5, 6, 7, 12, 13] rfl
                        have hD : va_D A [(o, .inr (7, [.int 0, .int (nI n), .ref ml, .ref mm, .ref mw, .ref mc, .int (nI k), .ref mg, .ref md, .int so, .int fo, .ref mb, .long bb, .long bc, .ref mt, .long be, .ref mr, .int (nI rs), .ref mo, .int (nI rc), .ref mx, .ref mp, .ref nk, .ref na, .ref nv, .ref nf, .ref ns, .ref ne, .ref nw, .ref mf])), (ml, .inl (cI, 4, .inl lo)), (mm, .inl (cI, 4, .inl hi)), (mw, .inl (cZ, 4, .inl wh)), (mc, .inl (cI, 4, .inl co)), (mg, .inl (cI, 24, .inl wt)), (md, .inl (cI, 6, .inl bd)), (nk, .inl (cI, 40, .inl kd)), (na, .inl (cI, 40, .inl fa)), (nv, .inl (cI, 40, .inl fv)), (nf, .inl (cI, 40, .inl fi)), (ns, .inl (cI, 40, .inl se)), (ne, .inl (cL, 280, .inr (.inl en))), (nw, .inl (cI, 900, .inl wa2))] := hD.sub [8, 0, 1, 2, 9, 10, 11, 3, 4, 5, 6, 7, 12, 13] (by decide) rfl
                        have p141 : tl_ok (mi_ok en co wt bd wa2 nd (9 * m9) n k pv.toInt64 qv.toInt64) zr5 := p141
                        refine lv_if_ne (tgt := 149) hx hb dd_Model_sound_144 (by decide) (fun h144 => ?_) (fun h144 => ?_)
                        · skip
                          have hts9 := so_yd hne hnd (so_te (fv := fv) (fan := fan) (fin := fin) (sen := sen) (wh := wh) hn h118 h129 (tl_1 p141 h144))
                          refine lv_aload_n hx hb dd_Model_sound_149 rfl (lv_at hl 3 rfl) ?_
                          refine va_get (D := D) (ci := 7) (v := .ref nk) (C := RR_Model) (T := FF_Model) (N := 30) hx hb htb hi_Model hown hK hP 0 rfl rfl 22 (by decide) hf_52 (fun _ h9 => h9) rfl dd_Model_sound_150 ?_
                          refine lv_iload hx hb dd_Model_sound_153 (lv_at hl 0 rfl) ?_
                          refine mm_iald hx hb hK hP 7 0 rfl rfl (nd) (rfl) (by omega) (by first | decide | omega) dd_Model_sound_155 ?_
                          refine lv_iconst (v := 1) hx hb dd_Model_sound_156 (by decide) ?_
                          refine lv_icmp_ne (tgt := 339) hx hb dd_Model_sound_157 (by decide) (fun h157 => ?_) (fun h157 => ?_)
                          · skip
                            refine lv_goto (tgt := 89) hx hb dd_Model_sound_339 (by decide) ?_
                            exact IH89 m9 wa2 (by first | exact Nat.lt_of_lt_of_le hfk.2 (Nat.le_of_lt_succ hN1) | exact Nat.lt_of_lt_of_le so_dec (Nat.le_of_lt_succ hN1)) (by first | exact hfk.1 | exact so_pop hv2 hts9 | exact (so_ab (hkd nd hnd) h118 h157 h129).elim) ls H locs (lv_sub hl [3, 4, 5, 2] rfl) hP hD hS
                          · skip
                            exact J160  (h157) ls H locs (lv_sub hl [3, 4, 5, 2, 1, 0] rfl) hP hD hS
                        · skip
                          refine lv_iconst (v := 0) hx hb dd_Model_sound_147 (by decide) ?_
                          exact W.zret (v := (0 : Int32)) hx hb hr (rfl) (fun t ht hW => ⟨⟨(0 : Int32), wa2, rfl, by first | exact so_no hv2 (so_nd hne hnd (tq_z h118)) | exact so_no hv2 (so_nd hne hnd (so_ne hn h118 h129 (tl_0 p141 h144))), by rw [ht]; exact hP, va_K.moved hW.alike hK, hD⟩, hS.F ht⟩) hS.2.2 dd_Model_sound_148
              exact J89 _ 1 wa1 (Nat.lt_succ_self _) (hs9) ls H locs (lv_sub hl [1, 2, 3, 0] rfl) hP hD hS
            · skip
              have h50 : ¬ (4 ≤ j) := fun q9 => h50 ((nI_leI (a := 4) (b := j) (by omega) (by omega)).mpr q9)
              refine lv_aload_n hx hb dd_Model_sound_53 rfl (lv_at hl 0 rfl) ?_
              refine va_get (D := D) (ci := 7) (v := .ref nw) (C := RR_Model) (T := FF_Model) (N := 30) hx hb htb hi_Model hown hK hP 0 rfl rfl 28 (by decide) hf_70 (fun _ h9 => h9) rfl dd_Model_sound_54 ?_
              refine lv_iconst (v := 1) hx hb dd_Model_sound_57 (by decide) ?_
              refine lv_iload_n hx hb dd_Model_sound_58 rfl (lv_at hl 3 rfl) ?_
              refine lv_iadd hx hb dd_Model_sound_59 ?_
              refine mm_topi (y := nI (1 + j)) (nI_add 1 j) ?_
              refine lv_aload_n hx hb dd_Model_sound_60 rfl (lv_at hl 0 rfl) ?_
              refine va_get (D := D) (ci := 7) (v := .ref ml) (C := RR_Model) (T := FF_Model) (N := 30) hx hb htb hi_Model hown hK hP 0 rfl rfl 2 (by decide) hf_13 (fun _ h9 => h9) rfl dd_Model_sound_61 ?_
              refine lv_iload_n hx hb dd_Model_sound_64 rfl (lv_at hl 3 rfl) ?_
              refine mm_iald hx hb hK hP 1 0 rfl rfl (j) (rfl) (by omega) (by first | decide | omega) dd_Model_sound_65 ?_
              refine mm_iast hx hb hK hP hD hS 13 0 rfl rfl (1 + j) (rfl) (by omega) (by first | decide | omega) dd_Model_sound_66 (fun H locs hP hD hS => ?_)
              have hP : va_P D kc_all [(o, .inr (7, [.int 0, .int (nI n), .ref ml, .ref mm, .ref mw, .ref mc, .int (nI k), .ref mg, .ref md, .int so, .int fo, .ref mb, .long bb, .long bc, .ref mt, .long be, .ref mr, .int (nI rs), .ref mo, .int (nI rc), .ref mx, .ref mp, .ref nk, .ref na, .ref nv, .ref nf, .ref ns, .ref ne, .ref nw, .ref mf])), (ml, .inl (cI, 4, .inl lo)), (mm, .inl (cI, 4, .inl hi)), (mw, .inl (cZ, 4, .inl wh)), (mc, .inl (cI, 4, .inl co)), (mg, .inl (cI, 24, .inl wt)), (md, .inl (cI, 6, .inl bd)), (nk, .inl (cI, 40, .inl kd)), (na, .inl (cI, 40, .inl fa)), (nv, .inl (cI, 40, .inl fv)), (nf, .inl (cI, 40, .inl fi)), (ns, .inl (cI, 40, .inl se)), (ne, .inl (cL, 280, .inr (.inl en))), (nw, .inl (cI, 900, .inl (upd wa1 (1 + j) (lo j))))] H := hP
              have hD : va_D A [(o, .inr (7, [.int 0, .int (nI n), .ref ml, .ref mm, .ref mw, .ref mc, .int (nI k), .ref mg, .ref md, .int so, .int fo, .ref mb, .long bb, .long bc, .ref mt, .long be, .ref mr, .int (nI rs), .ref mo, .int (nI rc), .ref mx, .ref mp, .ref nk, .ref na, .ref nv, .ref nf, .ref ns, .ref ne, .ref nw, .ref mf])), (ml, .inl (cI, 4, .inl lo)), (mm, .inl (cI, 4, .inl hi)), (mw, .inl (cZ, 4, .inl wh)), (mc, .inl (cI, 4, .inl co)), (mg, .inl (cI, 24, .inl wt)), (md, .inl (cI, 6, .inl bd)), (nk, .inl (cI, 40, .inl kd)), (na, .inl (cI, 40, .inl fa)), (nv, .inl (cI, 40, .inl fv)), (nf, .inl (cI, 40, .inl fi)), (ns, .inl (cI, 40, .inl se)), (ne, .inl (cL, 280, .inr (.inl en))), (nw, .inl (cI, 900, .inl (upd wa1 (1 + j) (lo j))))] := hD
              refine lv_aload_n hx hb dd_Model_sound_67 rfl (lv_at hl 0 rfl) ?_
              refine va_get (D := D) (ci := 7) (v := .ref nw) (C := RR_Model) (T := FF_Model) (N := 30) hx hb htb hi_Model hown hK hP 0 rfl rfl 28 (by decide) hf_70 (fun _ h9 => h9) rfl dd_Model_sound_68 ?_
              refine lv_iconst (v := 5) hx hb dd_Model_sound_71 (by decide) ?_
              refine lv_iload_n hx hb dd_Model_sound_72 rfl (lv_at hl 3 rfl) ?_
              refine lv_iadd hx hb dd_Model_sound_73 ?_
              refine mm_topi (y := nI (5 + j)) (nI_add 5 j) ?_
              refine lv_aload_n hx hb dd_Model_sound_74 rfl (lv_at hl 0 rfl) ?_
              refine va_get (D := D) (ci := 7) (v := .ref mm) (C := RR_Model) (T := FF_Model) (N := 30) hx hb htb hi_Model hown hK hP 0 rfl rfl 3 (by decide) hf_17 (fun _ h9 => h9) rfl dd_Model_sound_75 ?_
              refine lv_iload_n hx hb dd_Model_sound_78 rfl (lv_at hl 3 rfl) ?_
              refine mm_iald hx hb hK hP 2 0 rfl rfl (j) (rfl) (by omega) (by first | decide | omega) dd_Model_sound_79 ?_
              refine mm_iast hx hb hK hP hD hS 13 0 rfl rfl (5 + j) (rfl) (by omega) (by first | decide | omega) dd_Model_sound_80 (fun H locs hP hD hS => ?_)
              have hP : va_P D kc_all [(o, .inr (7, [.int 0, .int (nI n), .ref ml, .ref mm, .ref mw, .ref mc, .int (nI k), .ref mg, .ref md, .int so, .int fo, .ref mb, .long bb, .long bc, .ref mt, .long be, .ref mr, .int (nI rs), .ref mo, .int (nI rc), .ref mx, .ref mp, .ref nk, .ref na, .ref nv, .ref nf, .ref ns, .ref ne, .ref nw, .ref mf])), (ml, .inl (cI, 4, .inl lo)), (mm, .inl (cI, 4, .inl hi)), (mw, .inl (cZ, 4, .inl wh)), (mc, .inl (cI, 4, .inl co)), (mg, .inl (cI, 24, .inl wt)), (md, .inl (cI, 6, .inl bd)), (nk, .inl (cI, 40, .inl kd)), (na, .inl (cI, 40, .inl fa)), (nv, .inl (cI, 40, .inl fv)), (nf, .inl (cI, 40, .inl fi)), (ns, .inl (cI, 40, .inl se)), (ne, .inl (cL, 280, .inr (.inl en))), (nw, .inl (cI, 900, .inl (upd (upd wa1 (1 + j) (lo j)) (5 + j) (hi j))))] H := hP
              have hD : va_D A [(o, .inr (7, [.int 0, .int (nI n), .ref ml, .ref mm, .ref mw, .ref mc, .int (nI k), .ref mg, .ref md, .int so, .int fo, .ref mb, .long bb, .long bc, .ref mt, .long be, .ref mr, .int (nI rs), .ref mo, .int (nI rc), .ref mx, .ref mp, .ref nk, .ref na, .ref nv, .ref nf, .ref ns, .ref ne, .ref nw, .ref mf])), (ml, .inl (cI, 4, .inl lo)), (mm, .inl (cI, 4, .inl hi)), (mw, .inl (cZ, 4, .inl wh)), (mc, .inl (cI, 4, .inl co)), (mg, .inl (cI, 24, .inl wt)), (md, .inl (cI, 6, .inl bd)), (nk, .inl (cI, 40, .inl kd)), (na, .inl (cI, 40, .inl fa)), (nv, .inl (cI, 40, .inl fv)), (nf, .inl (cI, 40, .inl fi)), (ns, .inl (cI, 40, .inl se)), (ne, .inl (cL, 280, .inr (.inl en))), (nw, .inl (cI, 900, .inl (upd (upd wa1 (1 + j) (lo j)) (5 + j) (hi j))))] := hD
              refine lv_iinc (k := 3) (v := nI (j + 1)) (lv' := [(3, .int (nI (j + 1))), (0, .ref o), (1, .int pv), (2, .int qv)]) hx hb dd_Model_sound_81 hl rfl (nI_1 _) (by decide) rfl (fun ls hl => ?_)
              refine lv_goto (tgt := 48) hx hb dd_Model_sound_84 (by decide) ?_
              exact IH48 (j + 1) (upd (upd wa1 (1 + j) (lo j)) (5 + j) (hi j)) (by omega) (by omega) (sw_s (by omega) hv) ls H locs (lv_sub hl [1, 2, 3, 0] rfl) hP hD hS
        exact J48 _ 0 (upd wa 0 (0 : Int32)) (Nat.lt_succ_self _) (by omega) (sw_0) ls H locs (lv_sub hl [1, 2, 3, 0] rfl) hP hD hS
      · skip
        have h34 : ¬ (0 ≤ 0) := fun q9 => h34 ((nI_leI (a := 0) (b := 0) (by omega) (by omega)).mpr q9)
        omega
abbrev qq_Model_soundN (D : va_G) (cI cZ cL cQ : ClassId) (o : Nat) (ml : Nat) (mm : Nat) (mw : Nat) (mc : Nat) (mg : Nat) (md : Nat) (mb : Nat) (mt : Nat) (mr : Nat) (mo : Nat) (mx : Nat) (mp : Nat) (nk : Nat) (na : Nat) (nv : Nat) (nf : Nat) (ns : Nat) (ne : Nat) (nw : Nat) (mf : Nat) (thr : Int32) (n : Nat) (k : Nat) (so : Int32) (fo : Int32) (bb : Int64) (bc : Int64) (be : Int64) (rs : Nat) (rc : Nat) (pv : Int32) (qv : Int32) (A : Nat → Prop) : Array Value → State → Outcome → State → Prop := va_Qi (fun (r : Int32) (u : Unit) => True) (fun (u : Unit) t => mm_B D kc_all [(cI, .int), (cZ, .boolean), (cL, .long), (cQ, .array .int)] A [(o, .inr (7, [.int 1, .int (nI n), .ref ml, .ref mm, .ref mw, .ref mc, .int (nI k), .ref mg, .ref md, .int so, .int fo, .ref mb, .long bb, .long bc, .ref mt, .long be, .ref mr, .int (nI rs), .ref mo, .int (nI rc), .ref mx, .ref mp, .ref nk, .ref na, .ref nv, .ref nf, .ref ns, .ref ne, .ref nw, .ref mf]))] t) A
set_option maxHeartbeats 4000000 in
set_option maxRecDepth 100000 in
theorem cc_Model_soundN (l : Launch) (D : va_G) (cI cZ cL cQ : ClassId) (sz : Nat) (o : Nat) (ml : Nat) (mm : Nat) (mw : Nat) (mc : Nat) (mg : Nat) (md : Nat) (mb : Nat) (mt : Nat) (mr : Nat) (mo : Nat) (mx : Nat) (mp : Nat) (nk : Nat) (na : Nat) (nv : Nat) (nf : Nat) (ns : Nat) (ne : Nat) (nw : Nat) (mf : Nat) (thr : Int32) (n : Nat) (k : Nat) (so : Int32) (fo : Int32) (bb : Int64) (bc : Int64) (be : Int64) (rs : Nat) (rc : Nat) (pv : Int32) (qv : Int32) (hno : ¬ (in_ok pv (-1000000) 1000000 ∧ in_ok qv 1 1000000)) : Met l yy_Model_sound ww_Model_sound ({ frames := 1, cells := 0, slots := 0, locals := 34 } : Room) (mm_Pc D kc_all [(cI, .int), (cZ, .boolean), (cL, .long), (cQ, .array .int)] sz [(o, .inr (7, [.int thr, .int (nI n), .ref ml, .ref mm, .ref mw, .ref mc, .int (nI k), .ref mg, .ref md, .int so, .int fo, .ref mb, .long bb, .long bc, .ref mt, .long be, .ref mr, .int (nI rs), .ref mo, .int (nI rc), .ref mx, .ref mp, .ref nk, .ref na, .ref nv, .ref nf, .ref ns, .ref ne, .ref nw, .ref mf]))] [.ref o, .int pv, .int qv]) (qq_Model_soundN D cI cZ cL cQ o ml mm mw mc mg md mb mt mr mo mx mp nk na nv nf ns ne nw mf thr n k so fo bb bc be rs rc pv qv (va_A [(o, .inr (7, [.int thr, .int (nI n), .ref ml, .ref mm, .ref mw, .ref mc, .int (nI k), .ref mg, .ref md, .int so, .int fo, .ref mb, .long bb, .long bc, .ref mt, .long be, .ref mr, .int (nI rs), .ref mo, .int (nI rc), .ref mx, .ref mp, .ref nk, .ref na, .ref nv, .ref nf, .ref ns, .ref ne, .ref nw, .ref mf]))] sz)) 0 0 (va_A [(o, .inr (7, [.int thr, .int (nI n), .ref ml, .ref mm, .ref mw, .ref mc, .int (nI k), .ref mg, .ref md, .int so, .int fo, .ref mb, .long bb, .long bc, .ref mt, .long be, .ref mr, .int (nI rs), .ref mo, .int (nI rc), .ref mx, .ref mp, .ref nk, .ref na, .ref nv, .ref nf, .ref ns, .ref ne, .ref nw, .ref mf]))] sz) := by
  refine Met.ofW (cc := bb_Model_sound) (maxL := 9) (ret := (some .boolean)) (by decide) rfl ?_
  intro p e s m args below meth c s₁ B hml hv
  obtain ⟨rfl, hsz, hP, hK, hD0⟩ := hv
  have hx := B.exec
  have hb := B.bytes
  have hr := B.returns
  have hts := atoms_spec (ws := ww_Model_sound) B.pre
  have hown : s.vm.findClass RR_Model = some m.cls := findClass_of_methodNamed B.named
  have hlocks := B.notSynchronized
  subst hsz
  have hD := hD0.self (sz := s.heap.size)
  generalize hAe : va_A [(o, .inr (7, [.int thr, .int (nI n), .ref ml, .ref mm, .ref mw, .ref mc, .int (nI k), .ref mg, .ref md, .int so, .int fo, .ref mb, .long bb, .long bc, .ref mt, .long be, .ref mr, .int (nI rs), .ref mo, .int (nI rc), .ref mx, .ref mp, .ref nk, .ref na, .ref nv, .ref nf, .ref ns, .ref ne, .ref nw, .ref mf]))] s.heap.size = A at hD ⊢
  have hA : ∀ q : Nat, s.heap.size ≤ q → A q := fun q h => by rw [← hAe]; exact Or.inr h
  have hS : va_S A s.heap s.heap [] := va_S.rf
  have hP : va_P D kc_all [(o, .inr (7, [.int thr, .int (nI n), .ref ml, .ref mm, .ref mw, .ref mc, .int (nI k), .ref mg, .ref md, .int so, .int fo, .ref mb, .long bb, .long bc, .ref mt, .long be, .ref mr, .int (nI rs), .ref mo, .int (nI rc), .ref mx, .ref mp, .ref nk, .ref na, .ref nv, .ref nf, .ref ns, .ref ne, .ref nw, .ref mf]))] s.heap := hP
  have hl := lv_entry ([.ref o, .int pv, .int qv]) (n := 9) (Nat.le_of_ble_eq_true rfl)
  rw [lg_entry_eq]
  generalize (lg_sl ([.ref o, .int pv, .int qv]) ++ List.replicate (9 - (lg_sl ([.ref o, .int pv, .int qv])).length) Slot.unset).toArray = ls at hl ⊢
  have hl : lv_has ls 9 [(0, .ref o), (1, .int pv), (2, .int qv)] := hl
  have htb : ∀ w ∈ tb_all, w.before ([.ref o, .int pv, .int qv]).toArray s = true := fun w h => hts w (List.mem_cons_of_mem _ h)
  have hf_7 := htb _ fl_Model_7
  have hf_13 := htb _ fl_Model_13
  have hf_17 := htb _ fl_Model_17
  have hf_20 := htb _ fl_Model_20
  have hf_52 := htb _ fl_Model_52
  have hf_55 := htb _ fl_Model_55
  have hf_58 := htb _ fl_Model_58
  have hf_61 := htb _ fl_Model_61
  have hf_64 := htb _ fl_Model_64
  have hf_70 := htb _ fl_Model_70
  have hf_76 := htb _ fl_Model_76
  refine lv_aload_n hx hb dd_Model_sound_0 rfl (lv_at hl 0 rfl) ?_
  refine lv_iload_n hx hb dd_Model_sound_1 rfl (lv_at hl 1 rfl) ?_
  refine lv_ldc (v := (-1000000)) hx hb hown (htb _ kn_Model_153) dd_Model_sound_2 ?_
  refine lv_ldc (v := 1000000) hx hb hown (htb _ kn_Model_152) dd_Model_sound_4 ?_
  refine mm_i (wc := []) (wr := [(o, .inr (7, [.int thr, .int (nI n), .ref ml, .ref mm, .ref mw, .ref mc, .int (nI k), .ref mg, .ref md, .int so, .int fo, .ref mb, .long bb, .long bc, .ref mt, .long be, .ref mr, .int (nI rs), .ref mo, .int (nI rc), .ref mx, .ref mp, .ref nk, .ref na, .ref nv, .ref nf, .ref ns, .ref ne, .ref nw, .ref mf]))]) (va_runS (As := [.int pv, .int (-1000000 : Int32), .int (1000000 : Int32)]) (rest := [.ref o]) ⟨hx, hb, hml, hown, hts⟩ (cc_Model_isIn l D cI cZ cL cQ _ pv (-1000000 : Int32) (1000000 : Int32) ) (mm_cwS 3 hts ml_Model_79 sm_Model_isIn ic_Model cd_Model_isIn rfl rfl (by decide +kernel) ⟨Nat.le_of_ble_eq_true rfl, Nat.le_of_ble_eq_true rfl⟩) (mm_preS hK hP hD [] (by decide) rfl) rfl rfl hl.1 rfl (lv_room (Nat.le_of_ble_eq_true rfl)) dd_Model_sound_6 ⟨Nat.zero_le _, Nat.zero_le _⟩) hP hD hS hA [] [0] rfl rfl (by decide) (by decide) (fun zr1 zu2 H locs p6 hP hD hS => ?_)
  have hP : va_P D kc_all [(o, .inr (7, [.int thr, .int (nI n), .ref ml, .ref mm, .ref mw, .ref mc, .int (nI k), .ref mg, .ref md, .int so, .int fo, .ref mb, .long bb, .long bc, .ref mt, .long be, .ref mr, .int (nI rs), .ref mo, .int (nI rc), .ref mx, .ref mp, .ref nk, .ref na, .ref nv, .ref nf, .ref ns, .ref ne, .ref nw, .ref mf]))] H := hP
  have hD : va_D A [(o, .inr (7, [.int thr, .int (nI n), .ref ml, .ref mm, .ref mw, .ref mc, .int (nI k), .ref mg, .ref md, .int so, .int fo, .ref mb, .long bb, .long bc, .ref mt, .long be, .ref mr, .int (nI rs), .ref mo, .int (nI rc), .ref mx, .ref mp, .ref nk, .ref na, .ref nv, .ref nf, .ref ns, .ref ne, .ref nw, .ref mf]))] := hD
  have p6 : tl_ok (in_ok pv (-1000000 : Int32) (1000000 : Int32)) zr1 := p6
  refine lv_if_eq (tgt := 26) hx hb dd_Model_sound_9 (by decide) (fun h9 => ?_) (fun h9 => ?_)
  · skip
    refine lv_iconst (v := 1) hx hb dd_Model_sound_26 (by decide) ?_
    refine va_put (D := D) (ci := 7) (v := .int (1 : Int32)) (ty := .int) (C := RR_Model) (T := FF_Model) (N := 30) hx hb htb hi_Model tt_Model tt_Model_ok nn_Model hown hK hP hD hS 0 rfl rfl 0 (by decide) hf_76 (fun _ h9 => h9) rfl (by decide +kernel) (rfl) (rfl) (Nat.le_of_ble_eq_true rfl) dd_Model_sound_27 (fun H locs hP hD hS => ?_)
    have hP : va_P D kc_all [(o, .inr (7, [.int (1 : Int32), .int (nI n), .ref ml, .ref mm, .ref mw, .ref mc, .int (nI k), .ref mg, .ref md, .int so, .int fo, .ref mb, .long bb, .long bc, .ref mt, .long be, .ref mr, .int (nI rs), .ref mo, .int (nI rc), .ref mx, .ref mp, .ref nk, .ref na, .ref nv, .ref nf, .ref ns, .ref ne, .ref nw, .ref mf]))] H := hP
    have hD : va_D A [(o, .inr (7, [.int (1 : Int32), .int (nI n), .ref ml, .ref mm, .ref mw, .ref mc, .int (nI k), .ref mg, .ref md, .int so, .int fo, .ref mb, .long bb, .long bc, .ref mt, .long be, .ref mr, .int (nI rs), .ref mo, .int (nI rc), .ref mx, .ref mp, .ref nk, .ref na, .ref nv, .ref nf, .ref ns, .ref ne, .ref nw, .ref mf]))] := hD
    refine lv_aload_n hx hb dd_Model_sound_30 rfl (lv_at hl 0 rfl) ?_
    refine va_get (D := D) (ci := 7) (v := .int (1 : Int32)) (C := RR_Model) (T := FF_Model) (N := 30) hx hb htb hi_Model hown hK hP 0 rfl rfl 0 (by decide) hf_76 (fun _ h9 => h9) rfl dd_Model_sound_31 ?_
    refine lv_if_le (tgt := 39) hx hb dd_Model_sound_34 (by decide) (fun h34 => ?_) (fun h34 => ?_)
    · skip
      have h34 : 1 ≤ 0 := (nI_leI (a := 1) (b := 0) (by omega) (by omega)).mp h34
      omega
    · skip
      have h34 : ¬ (1 ≤ 0) := fun q9 => h34 ((nI_leI (a := 1) (b := 0) (by omega) (by omega)).mpr q9)
      refine lv_iconst (v := 0) hx hb dd_Model_sound_37 (by decide) ?_
      exact W.zret (v := (0 : Int32)) hx hb hr (rfl) (fun t ht hW => ⟨⟨(0 : Int32), (), rfl, trivial, by rw [ht]; exact hP, va_K.moved hW.alike hK, hD⟩, hS.F ht⟩) hS.2.2 dd_Model_sound_38
  · skip
    refine lv_iload_n hx hb dd_Model_sound_12 rfl (lv_at hl 2 rfl) ?_
    refine lv_iconst (v := 1) hx hb dd_Model_sound_13 (by decide) ?_
    refine lv_ldc (v := 1000000) hx hb hown (htb _ kn_Model_152) dd_Model_sound_14 ?_
    refine mm_i (wc := []) (wr := [(o, .inr (7, [.int thr, .int (nI n), .ref ml, .ref mm, .ref mw, .ref mc, .int (nI k), .ref mg, .ref md, .int so, .int fo, .ref mb, .long bb, .long bc, .ref mt, .long be, .ref mr, .int (nI rs), .ref mo, .int (nI rc), .ref mx, .ref mp, .ref nk, .ref na, .ref nv, .ref nf, .ref ns, .ref ne, .ref nw, .ref mf]))]) (va_runS (As := [.int qv, .int (1 : Int32), .int (1000000 : Int32)]) (rest := [.ref o]) ⟨hx, hb, hml, hown, hts⟩ (cc_Model_isIn l D cI cZ cL cQ _ qv (1 : Int32) (1000000 : Int32) ) (mm_cwS 3 hts ml_Model_79 sm_Model_isIn ic_Model cd_Model_isIn rfl rfl (by decide +kernel) ⟨Nat.le_of_ble_eq_true rfl, Nat.le_of_ble_eq_true rfl⟩) (mm_preS hK hP hD [] (by decide) rfl) rfl rfl hl.1 rfl (lv_room (Nat.le_of_ble_eq_true rfl)) dd_Model_sound_16 ⟨Nat.zero_le _, Nat.zero_le _⟩) hP hD hS hA [] [0] rfl rfl (by decide) (by decide) (fun zr3 zu4 H locs p16 hP hD hS => ?_)
    have hP : va_P D kc_all [(o, .inr (7, [.int thr, .int (nI n), .ref ml, .ref mm, .ref mw, .ref mc, .int (nI k), .ref mg, .ref md, .int so, .int fo, .ref mb, .long bb, .long bc, .ref mt, .long be, .ref mr, .int (nI rs), .ref mo, .int (nI rc), .ref mx, .ref mp, .ref nk, .ref na, .ref nv, .ref nf, .ref ns, .ref ne, .ref nw, .ref mf]))] H := hP
    have hD : va_D A [(o, .inr (7, [.int thr, .int (nI n), .ref ml, .ref mm, .ref mw, .ref mc, .int (nI k), .ref mg, .ref md, .int so, .int fo, .ref mb, .long bb, .long bc, .ref mt, .long be, .ref mr, .int (nI rs), .ref mo, .int (nI rc), .ref mx, .ref mp, .ref nk, .ref na, .ref nv, .ref nf, .ref ns, .ref ne, .ref nw, .ref mf]))] := hD
    have p16 : tl_ok (in_ok qv (1 : Int32) (1000000 : Int32)) zr3 := p16
    refine lv_if_eq (tgt := 26) hx hb dd_Model_sound_19 (by decide) (fun h19 => ?_) (fun h19 => ?_)
    · skip
      refine lv_iconst (v := 1) hx hb dd_Model_sound_26 (by decide) ?_
      refine va_put (D := D) (ci := 7) (v := .int (1 : Int32)) (ty := .int) (C := RR_Model) (T := FF_Model) (N := 30) hx hb htb hi_Model tt_Model tt_Model_ok nn_Model hown hK hP hD hS 0 rfl rfl 0 (by decide) hf_76 (fun _ h9 => h9) rfl (by decide +kernel) (rfl) (rfl) (Nat.le_of_ble_eq_true rfl) dd_Model_sound_27 (fun H locs hP hD hS => ?_)
      have hP : va_P D kc_all [(o, .inr (7, [.int (1 : Int32), .int (nI n), .ref ml, .ref mm, .ref mw, .ref mc, .int (nI k), .ref mg, .ref md, .int so, .int fo, .ref mb, .long bb, .long bc, .ref mt, .long be, .ref mr, .int (nI rs), .ref mo, .int (nI rc), .ref mx, .ref mp, .ref nk, .ref na, .ref nv, .ref nf, .ref ns, .ref ne, .ref nw, .ref mf]))] H := hP
      have hD : va_D A [(o, .inr (7, [.int (1 : Int32), .int (nI n), .ref ml, .ref mm, .ref mw, .ref mc, .int (nI k), .ref mg, .ref md, .int so, .int fo, .ref mb, .long bb, .long bc, .ref mt, .long be, .ref mr, .int (nI rs), .ref mo, .int (nI rc), .ref mx, .ref mp, .ref nk, .ref na, .ref nv, .ref nf, .ref ns, .ref ne, .ref nw, .ref mf]))] := hD
      refine lv_aload_n hx hb dd_Model_sound_30 rfl (lv_at hl 0 rfl) ?_
      refine va_get (D := D) (ci := 7) (v := .int (1 : Int32)) (C := RR_Model) (T := FF_Model) (N := 30) hx hb htb hi_Model hown hK hP 0 rfl rfl 0 (by decide) hf_76 (fun _ h9 => h9) rfl dd_Model_sound_31 ?_
      refine lv_if_le (tgt := 39) hx hb dd_Model_sound_34 (by decide) (fun h34 => ?_) (fun h34 => ?_)
      · skip
        have h34 : 1 ≤ 0 := (nI_leI (a := 1) (b := 0) (by omega) (by omega)).mp h34
        omega
      · skip
        have h34 : ¬ (1 ≤ 0) := fun q9 => h34 ((nI_leI (a := 1) (b := 0) (by omega) (by omega)).mpr q9)
        refine lv_iconst (v := 0) hx hb dd_Model_sound_37 (by decide) ?_
        exact W.zret (v := (0 : Int32)) hx hb hr (rfl) (fun t ht hW => ⟨⟨(0 : Int32), (), rfl, trivial, by rw [ht]; exact hP, va_K.moved hW.alike hK, hD⟩, hS.F ht⟩) hS.2.2 dd_Model_sound_38
    · skip
      exact absurd ⟨tl_1 p6 h9, tl_1 p16 h19⟩ hno
