abbrev qq_Model_determinant (D : va_G) (cI cZ cL cQ : ClassId) (o : Nat) (ml : Nat) (mm : Nat) (mw : Nat) (mc : Nat) (mg : Nat) (md : Nat) (mb : Nat) (mt : Nat) (mr : Nat) (mo : Nat) (mx : Nat) (mp : Nat) (nk : Nat) (na : Nat) (nv : Nat) (nf : Nat) (ns : Nat) (ne : Nat) (nw : Nat) (mf : Nat) (thr : Int32) (n : Nat) (k : Nat) (so : Int32) (fo : Int32) (bb : Int64) (bc : Int64) (be : Int64) (rs : Nat) (rc : Nat) (m0 : Nat → Int64) (A : Nat → Prop) : Array Value → State → Outcome → State → Prop := va_Ql (fun (r : Int64) (u : (Nat → Int64)) => r = dt_f rs (rs - 1) m0 1 1 0) (fun (u : (Nat → Int64)) t => mm_B D kc_all [(cI, .int), (cZ, .boolean), (cL, .long), (cQ, .array .int)] A [(o, .inr (7, [.int thr, .int (nI n), .ref ml, .ref mm, .ref mw, .ref mc, .int (nI k), .ref mg, .ref md, .int so, .int fo, .ref mb, .long bb, .long bc, .ref mt, .long be, .ref mr, .int (nI rs), .ref mo, .int (nI rc), .ref mx, .ref mp, .ref nk, .ref na, .ref nv, .ref nf, .ref ns, .ref ne, .ref nw, .ref mf])), (mx, .inl (cL, 16, .inr (.inl u)))] t) A
set_option maxHeartbeats 4000000 in
set_option maxRecDepth 100000 in
theorem cc_Model_determinant (l : Launch) (D : va_G) (cI cZ cL cQ : ClassId) (sz : Nat) (o : Nat) (ml : Nat) (mm : Nat) (mw : Nat) (mc : Nat) (mg : Nat) (md : Nat) (mb : Nat) (mt : Nat) (mr : Nat) (mo : Nat) (mx : Nat) (mp : Nat) (nk : Nat) (na : Nat) (nv : Nat) (nf : Nat) (ns : Nat) (ne : Nat) (nw : Nat) (mf : Nat) (thr : Int32) (n : Nat) (k : Nat) (so : Int32) (fo : Int32) (bb : Int64) (bc : Int64) (be : Int64) (rs : Nat) (rc : Nat) (m0 : Nat → Int64) (hrs : 1 ≤ rs ∧ rs ≤ 4) : Met l yy_Model_determinant ww_Model_determinant ({ frames := 0, cells := 0, slots := 0, locals := 0 } : Room) (mm_Pc D kc_all [(cI, .int), (cZ, .boolean), (cL, .long), (cQ, .array .int)] sz [(o, .inr (7, [.int thr, .int (nI n), .ref ml, .ref mm, .ref mw, .ref mc, .int (nI k), .ref mg, .ref md, .int so, .int fo, .ref mb, .long bb, .long bc, .ref mt, .long be, .ref mr, .int (nI rs), .ref mo, .int (nI rc), .ref mx, .ref mp, .ref nk, .ref na, .ref nv, .ref nf, .ref ns, .ref ne, .ref nw, .ref mf])), (mx, .inl (cL, 16, .inr (.inl m0)))] [.ref o]) (qq_Model_determinant D cI cZ cL cQ o ml mm mw mc mg md mb mt mr mo mx mp nk na nv nf ns ne nw mf thr n k so fo bb bc be rs rc m0 (va_A [(o, .inr (7, [.int thr, .int (nI n), .ref ml, .ref mm, .ref mw, .ref mc, .int (nI k), .ref mg, .ref md, .int so, .int fo, .ref mb, .long bb, .long bc, .ref mt, .long be, .ref mr, .int (nI rs), .ref mo, .int (nI rc), .ref mx, .ref mp, .ref nk, .ref na, .ref nv, .ref nf, .ref ns, .ref ne, .ref nw, .ref mf])), (mx, .inl (cL, 16, .inr (.inl m0)))] sz)) 0 0 (va_A [(o, .inr (7, [.int thr, .int (nI n), .ref ml, .ref mm, .ref mw, .ref mc, .int (nI k), .ref mg, .ref md, .int so, .int fo, .ref mb, .long bb, .long bc, .ref mt, .long be, .ref mr, .int (nI rs), .ref mo, .int (nI rc), .ref mx, .ref mp, .ref nk, .ref na, .ref nv, .ref nf, .ref ns, .ref ne, .ref nw, .ref mf])), (mx, .inl (cL, 16, .inr (.inl m0)))] sz) := by
  refine Met.ofW (cc := bb_Model_determinant) (maxL := 10) (ret := (some .long)) (by decide) rfl ?_
  intro p e s m args below meth c s₁ B hml hv
  obtain ⟨rfl, hsz, hP, hK, hD0⟩ := hv
  have hx := B.exec
  have hb := B.bytes
  have hr := B.returns
  have hts := atoms_spec (ws := ww_Model_determinant) B.pre
  have hown : s.vm.findClass RR_Model = some m.cls := findClass_of_methodNamed B.named
  have hlocks := B.notSynchronized
  subst hsz
  have hD := hD0.self (sz := s.heap.size)
  generalize hAe : va_A [(o, .inr (7, [.int thr, .int (nI n), .ref ml, .ref mm, .ref mw, .ref mc, .int (nI k), .ref mg, .ref md, .int so, .int fo, .ref mb, .long bb, .long bc, .ref mt, .long be, .ref mr, .int (nI rs), .ref mo, .int (nI rc), .ref mx, .ref mp, .ref nk, .ref na, .ref nv, .ref nf, .ref ns, .ref ne, .ref nw, .ref mf])), (mx, .inl (cL, 16, .inr (.inl m0)))] s.heap.size = A at hD ⊢
  have hA : ∀ q : Nat, s.heap.size ≤ q → A q := fun q h => by rw [← hAe]; exact Or.inr h
  have hS : va_S A s.heap s.heap [] := va_S.rf
  have hP : va_P D kc_all [(o, .inr (7, [.int thr, .int (nI n), .ref ml, .ref mm, .ref mw, .ref mc, .int (nI k), .ref mg, .ref md, .int so, .int fo, .ref mb, .long bb, .long bc, .ref mt, .long be, .ref mr, .int (nI rs), .ref mo, .int (nI rc), .ref mx, .ref mp, .ref nk, .ref na, .ref nv, .ref nf, .ref ns, .ref ne, .ref nw, .ref mf])), (mx, .inl (cL, 16, .inr (.inl m0)))] s.heap := hP
  have hl := lv_entry ([.ref o]) (n := 10) (Nat.le_of_ble_eq_true rfl)
  rw [lg_entry_eq]
  generalize (lg_sl ([.ref o]) ++ List.replicate (10 - (lg_sl ([.ref o])).length) Slot.unset).toArray = ls at hl ⊢
  have hl : lv_has ls 10 [(0, .ref o)] := hl
  have htb : ∀ w ∈ tb_all, w.before ([.ref o]).toArray s = true := fun w h => hts w (List.mem_cons_of_mem _ h)
  have hf_46 := htb _ fl_Model_46
  have hf_111 := htb _ fl_Model_111
  refine lv_lconst (v := 1) hx hb dd_Model_determinant_0 (by decide) ?_
  refine lv_lstore_n (lv' := [(1, .long (1 : Int64)), (0, .ref o)]) hx hb dd_Model_determinant_1 rfl hl (by decide) rfl (fun ls hl => ?_)
  refine lv_lconst (v := 1) hx hb dd_Model_determinant_2 (by decide) ?_
  refine lv_lstore_n (lv' := [(3, .long (1 : Int64)), (1, .long (1 : Int64)), (0, .ref o)]) hx hb dd_Model_determinant_3 rfl hl (by decide) rfl (fun ls hl => ?_)
  refine lv_iconst (v := 0) hx hb dd_Model_determinant_4 (by decide) ?_
  refine lv_istore (lv' := [(5, .int (0 : Int32)), (3, .long (1 : Int64)), (1, .long (1 : Int64)), (0, .ref o)]) hx hb dd_Model_determinant_5 hl (by decide) rfl (fun ls hl => ?_)
  have J7 : ∀ (N : Nat) (kk : Nat) (mt9 : Nat → Int64) (sg : Int64) (bf : Int64), (rs - kk) < N → ∀ (hkk : kk ≤ rs - 1) (hbf : ¬ bf = 0) (hv : dt_f rs (rs - 1 - kk) mt9 sg bf kk = dt_f rs (rs - 1) m0 1 1 0), ∀ (ls : Array Slot) (H : Heap) (locs : List Loc), lv_has ls 10 [(0, .ref o), (1, .long sg), (3, .long bf), (5, .int (nI kk))] → va_P D kc_all [(o, .inr (7, [.int thr, .int (nI n), .ref ml, .ref mm, .ref mw, .ref mc, .int (nI k), .ref mg, .ref md, .int so, .int fo, .ref mb, .long bb, .long bc, .ref mt, .long be, .ref mr, .int (nI rs), .ref mo, .int (nI rc), .ref mx, .ref mp, .ref nk, .ref na, .ref nv, .ref nf, .ref ns, .ref ne, .ref nw, .ref mf])), (mx, .inl (cL, 16, .inr (.inl mt9)))] H → va_D A [(o, .inr (7, [.int thr, .int (nI n), .ref ml, .ref mm, .ref mw, .ref mc, .int (nI k), .ref mg, .ref md, .int so, .int fo, .ref mb, .long bb, .long bc, .ref mt, .long be, .ref mr, .int (nI rs), .ref mo, .int (nI rc), .ref mx, .ref mp, .ref nk, .ref na, .ref nv, .ref nf, .ref ns, .ref ne, .ref nw, .ref mf])), (mx, .inl (cL, 16, .inr (.inl mt9)))] → va_S A s.heap H locs → W p l e (headSpec ww_Model_determinant ({ frames := 0, cells := 0, slots := 0, locals := 0 } : Room)).room s m ([.ref o]).toArray below meth c H locs 0 0 (MQ below (qq_Model_determinant D cI cZ cL cQ o ml mm mw mc mg md mb mt mr mo mx mp nk na nv nf ns ne nw mf thr n k so fo bb bc be rs rc m0 A) ([.ref o]).toArray s 0 0 A) (F0 m 7 ls []) := by
    intro N
    induction N with
    | zero => intro kk mt9 sg bf hN9; exact absurd hN9 (Nat.not_lt_zero _)
    | succ N IH7 =>
      intro kk mt9 sg bf hN9 hkk hbf hv ls H locs hl hP hD hS
      refine lv_iload hx hb dd_Model_determinant_7 (lv_at hl 3 rfl) ?_
      refine lv_aload_n hx hb dd_Model_determinant_9 rfl (lv_at hl 0 rfl) ?_
      refine va_get (D := D) (ci := 7) (v := .int (nI rs)) (C := RR_Model) (T := FF_Model) (N := 30) hx hb htb hi_Model hown hK hP 0 rfl rfl 17 (by decide) hf_111 (fun _ h9 => h9) rfl dd_Model_determinant_10 ?_
      refine lv_iconst (v := 1) hx hb dd_Model_determinant_13 (by decide) ?_
      refine lv_isub hx hb dd_Model_determinant_14 ?_
      refine mm_topi (y := nI (rs - 1)) (pk_sub (a := rs) (b := 1) (by omega)) ?_
      refine lv_icmp_ge (tgt := 282) hx hb dd_Model_determinant_15 (by decide) (fun h15 => ?_) (fun h15 => ?_)
      · skip
        have h15 : rs - 1 ≤ kk := (nI_leI (a := rs - 1) (b := kk) (by omega) (by omega)).mp h15
        refine lv_lload_n hx hb dd_Model_determinant_282 rfl (lv_at hl 1 rfl) ?_
        refine lv_aload_n hx hb dd_Model_determinant_283 rfl (lv_at hl 0 rfl) ?_
        refine va_get (D := D) (ci := 7) (v := .ref mx) (C := RR_Model) (T := FF_Model) (N := 30) hx hb htb hi_Model hown hK hP 0 rfl rfl 20 (by decide) hf_46 (fun _ h9 => h9) rfl dd_Model_determinant_284 ?_
        refine lv_iconst (v := 5) hx hb dd_Model_determinant_287 (by decide) ?_
        refine lv_aload_n hx hb dd_Model_determinant_288 rfl (lv_at hl 0 rfl) ?_
        refine va_get (D := D) (ci := 7) (v := .int (nI rs)) (C := RR_Model) (T := FF_Model) (N := 30) hx hb htb hi_Model hown hK hP 0 rfl rfl 17 (by decide) hf_111 (fun _ h9 => h9) rfl dd_Model_determinant_289 ?_
        refine lv_iconst (v := 1) hx hb dd_Model_determinant_292 (by decide) ?_
        refine lv_isub hx hb dd_Model_determinant_293 ?_
        refine mm_topi (y := nI (rs - 1)) (pk_sub (a := rs) (b := 1) (by omega)) ?_
        refine lv_imul hx hb dd_Model_determinant_294 ?_
        refine mm_topi (y := nI (5 * (rs - 1))) (pk_mul 5 (rs - 1)) ?_
        refine mm_lald hx hb hK hP 1 2 rfl rfl (5 * (rs - 1)) (rfl) (by omega) (by first | decide | omega) dd_Model_determinant_295 ?_
        refine lv_lmul hx hb dd_Model_determinant_296 ?_
        exact W.lret (v := (sg * (mt9 (5 * (rs - 1))))) hx hb hr (fun t ht hW => ⟨⟨sg * (mt9 (5 * (rs - 1))), mt9, rfl, dt_e (by omega) hv, by rw [ht]; exact hP, va_K.moved hW.alike hK, hD⟩, hS.F ht⟩) hS.2.2 dd_Model_determinant_297
      · skip
        have h15 : ¬ (rs - 1 ≤ kk) := fun q9 => h15 ((nI_leI (a := rs - 1) (b := kk) (by omega) (by omega)).mpr q9)
        refine lv_iload hx hb dd_Model_determinant_18 (lv_at hl 3 rfl) ?_
        refine lv_istore (lv' := [(6, .int (nI kk)), (0, .ref o), (1, .long sg), (3, .long bf), (5, .int (nI kk))]) hx hb dd_Model_determinant_20 hl (by decide) rfl (fun ls hl => ?_)
        have J22 : ∀ (N : Nat) (p9 : Nat), (rs - p9) < N → ∀ (hp9 : kk ≤ p9 ∧ p9 ≤ rs) (hpv : pv_f mt9 kk rs (rs - kk) = pv_f mt9 kk rs (rs - p9)), ∀ (ls : Array Slot) (H : Heap) (locs : List Loc), lv_has ls 10 [(0, .ref o), (1, .long sg), (3, .long bf), (5, .int (nI kk)), (6, .int (nI p9))] → va_P D kc_all [(o, .inr (7, [.int thr, .int (nI n), .ref ml, .ref mm, .ref mw, .ref mc, .int (nI k), .ref mg, .ref md, .int so, .int fo, .ref mb, .long bb, .long bc, .ref mt, .long be, .ref mr, .int (nI rs), .ref mo, .int (nI rc), .ref mx, .ref mp, .ref nk, .ref na, .ref nv, .ref nf, .ref ns, .ref ne, .ref nw, .ref mf])), (mx, .inl (cL, 16, .inr (.inl mt9)))] H → va_D A [(o, .inr (7, [.int thr, .int (nI n), .ref ml, .ref mm, .ref mw, .ref mc, .int (nI k), .ref mg, .ref md, .int so, .int fo, .ref mb, .long bb, .long bc, .ref mt, .long be, .ref mr, .int (nI rs), .ref mo, .int (nI rc), .ref mx, .ref mp, .ref nk, .ref na, .ref nv, .ref nf, .ref ns, .ref ne, .ref nw, .ref mf])), (mx, .inl (cL, 16, .inr (.inl mt9)))] → va_S A s.heap H locs → W p l e (headSpec ww_Model_determinant ({ frames := 0, cells := 0, slots := 0, locals := 0 } : Room)).room s m ([.ref o]).toArray below meth c H locs 0 0 (MQ below (qq_Model_determinant D cI cZ cL cQ o ml mm mw mc mg md mb mt mr mo mx mp nk na nv nf ns ne nw mf thr n k so fo bb bc be rs rc m0 A) ([.ref o]).toArray s 0 0 A) (F0 m 22 ls []) := by
          intro N
          induction N with
          | zero => intro p9 hN9; exact absurd hN9 (Nat.not_lt_zero _)
          | succ N IH22 =>
            intro p9 hN9 hp9 hpv ls H locs hl hP hD hS
            refine lv_iload hx hb dd_Model_determinant_22 (lv_at hl 4 rfl) ?_
            refine lv_aload_n hx hb dd_Model_determinant_24 rfl (lv_at hl 0 rfl) ?_
            refine va_get (D := D) (ci := 7) (v := .int (nI rs)) (C := RR_Model) (T := FF_Model) (N := 30) hx hb htb hi_Model hown hK hP 0 rfl rfl 17 (by decide) hf_111 (fun _ h9 => h9) rfl dd_Model_determinant_25 ?_
            refine lv_icmp_ge (tgt := 54) hx hb dd_Model_determinant_28 (by decide) (fun h28 => ?_) (fun h28 => ?_)
            · skip
              have h28 : rs ≤ p9 := (nI_leI (a := rs) (b := p9) (by omega) (by omega)).mp h28
              have J65 : ∀  (hq : p9 < rs ∧ ¬ mt9 (4 * p9 + kk) = 0), ∀ (ls : Array Slot) (H : Heap) (locs : List Loc), lv_has ls 10 [(0, .ref o), (1, .long sg), (3, .long bf), (5, .int (nI kk)), (6, .int (nI p9))] → va_P D kc_all [(o, .inr (7, [.int thr, .int (nI n), .ref ml, .ref mm, .ref mw, .ref mc, .int (nI k), .ref mg, .ref md, .int so, .int fo, .ref mb, .long bb, .long bc, .ref mt, .long be, .ref mr, .int (nI rs), .ref mo, .int (nI rc), .ref mx, .ref mp, .ref nk, .ref na, .ref nv, .ref nf, .ref ns, .ref ne, .ref nw, .ref mf])), (mx, .inl (cL, 16, .inr (.inl mt9)))] H → va_D A [(o, .inr (7, [.int thr, .int (nI n), .ref ml, .ref mm, .ref mw, .ref mc, .int (nI k), .ref mg, .ref md, .int so, .int fo, .ref mb, .long bb, .long bc, .ref mt, .long be, .ref mr, .int (nI rs), .ref mo, .int (nI rc), .ref mx, .ref mp, .ref nk, .ref na, .ref nv, .ref nf, .ref ns, .ref ne, .ref nw, .ref mf])), (mx, .inl (cL, 16, .inr (.inl mt9)))] → va_S A s.heap H locs → W p l e (headSpec ww_Model_determinant ({ frames := 0, cells := 0, slots := 0, locals := 0 } : Room)).room s m ([.ref o]).toArray below meth c H locs 0 0 (MQ below (qq_Model_determinant D cI cZ cL cQ o ml mm mw mc mg md mb mt mr mo mx mp nk na nv nf ns ne nw mf thr n k so fo bb bc be rs rc m0 A) ([.ref o]).toArray s 0 0 A) (F0 m 65 ls []) := by
                intro  hq ls H locs hl hP hD hS
                have hpp : pv_f mt9 kk rs (rs - kk) = p9 := hpv.trans (pv_n hq.1 hq.2)
                refine lv_iconst (v := 0) hx hb dd_Model_determinant_65 (by decide) ?_
                refine lv_istore (lv' := [(7, .int (0 : Int32)), (0, .ref o), (1, .long sg), (3, .long bf), (5, .int (nI kk)), (6, .int (nI p9))]) hx hb dd_Model_determinant_66 hl (by decide) rfl (fun ls hl => ?_)
                have J68 : ∀ (N : Nat) (c9 : Nat) (mt2 : Nat → Int64), (rs - c9) < N → ∀ (hc9 : c9 ≤ rs) (hm2 : mt2 = sq_f mt9 p9 kk c9), ∀ (ls : Array Slot) (H : Heap) (locs : List Loc), lv_has ls 10 [(0, .ref o), (1, .long sg), (3, .long bf), (5, .int (nI kk)), (6, .int (nI p9)), (7, .int (nI c9))] → va_P D kc_all [(o, .inr (7, [.int thr, .int (nI n), .ref ml, .ref mm, .ref mw, .ref mc, .int (nI k), .ref mg, .ref md, .int so, .int fo, .ref mb, .long bb, .long bc, .ref mt, .long be, .ref mr, .int (nI rs), .ref mo, .int (nI rc), .ref mx, .ref mp, .ref nk, .ref na, .ref nv, .ref nf, .ref ns, .ref ne, .ref nw, .ref mf])), (mx, .inl (cL, 16, .inr (.inl mt2)))] H → va_D A [(o, .inr (7, [.int thr, .int (nI n), .ref ml, .ref mm, .ref mw, .ref mc, .int (nI k), .ref mg, .ref md, .int so, .int fo, .ref mb, .long bb, .long bc, .ref mt, .long be, .ref mr, .int (nI rs), .ref mo, .int (nI rc), .ref mx, .ref mp, .ref nk, .ref na, .ref nv, .ref nf, .ref ns, .ref ne, .ref nw, .ref mf])), (mx, .inl (cL, 16, .inr (.inl mt2)))] → va_S A s.heap H locs → W p l e (headSpec ww_Model_determinant ({ frames := 0, cells := 0, slots := 0, locals := 0 } : Room)).room s m ([.ref o]).toArray below meth c H locs 0 0 (MQ below (qq_Model_determinant D cI cZ cL cQ o ml mm mw mc mg md mb mt mr mo mx mp nk na nv nf ns ne nw mf thr n k so fo bb bc be rs rc m0 A) ([.ref o]).toArray s 0 0 A) (F0 m 68 ls []) := by
                  intro N
                  induction N with
                  | zero => intro c9 mt2 hN9; exact absurd hN9 (Nat.not_lt_zero _)
                  | succ N IH68 =>
                    intro c9 mt2 hN9 hc9 hm2 ls H locs hl hP hD hS
                    refine lv_iload hx hb dd_Model_determinant_68 (lv_at hl 5 rfl) ?_
                    refine lv_aload_n hx hb dd_Model_determinant_70 rfl (lv_at hl 0 rfl) ?_
                    refine va_get (D := D) (ci := 7) (v := .int (nI rs)) (C := RR_Model) (T := FF_Model) (N := 30) hx hb htb hi_Model hown hK hP 0 rfl rfl 17 (by decide) hf_111 (fun _ h9 => h9) rfl dd_Model_determinant_71 ?_
                    refine lv_icmp_ge (tgt := 142) hx hb dd_Model_determinant_74 (by decide) (fun h74 => ?_) (fun h74 => ?_)
                    · skip
                      have h74 : rs ≤ c9 := (nI_leI (a := rs) (b := c9) (by omega) (by omega)).mp h74
                      have J142 : ∀ (mt3 : Nat → Int64) (hm3 : mt3 = sq_f mt9 p9 kk rs), ∀ (ls : Array Slot) (H : Heap) (locs : List Loc), lv_has ls 10 [(0, .ref o), (1, .long sg), (3, .long bf), (5, .int (nI kk)), (6, .int (nI p9))] → va_P D kc_all [(o, .inr (7, [.int thr, .int (nI n), .ref ml, .ref mm, .ref mw, .ref mc, .int (nI k), .ref mg, .ref md, .int so, .int fo, .ref mb, .long bb, .long bc, .ref mt, .long be, .ref mr, .int (nI rs), .ref mo, .int (nI rc), .ref mx, .ref mp, .ref nk, .ref na, .ref nv, .ref nf, .ref ns, .ref ne, .ref nw, .ref mf])), (mx, .inl (cL, 16, .inr (.inl mt3)))] H → va_D A [(o, .inr (7, [.int thr, .int (nI n), .ref ml, .ref mm, .ref mw, .ref mc, .int (nI k), .ref mg, .ref md, .int so, .int fo, .ref mb, .long bb, .long bc, .ref mt, .long be, .ref mr, .int (nI rs), .ref mo, .int (nI rc), .ref mx, .ref mp, .ref nk, .ref na, .ref nv, .ref nf, .ref ns, .ref ne, .ref nw, .ref mf])), (mx, .inl (cL, 16, .inr (.inl mt3)))] → va_S A s.heap H locs → W p l e (headSpec ww_Model_determinant ({ frames := 0, cells := 0, slots := 0, locals := 0 } : Room)).room s m ([.ref o]).toArray below meth c H locs 0 0 (MQ below (qq_Model_determinant D cI cZ cL cQ o ml mm mw mc mg md mb mt mr mo mx mp nk na nv nf ns ne nw mf thr n k so fo bb bc be rs rc m0 A) ([.ref o]).toArray s 0 0 A) (F0 m 142 ls []) := by
                        intro mt3 hm3 ls H locs hl hP hD hS
                        have J156 : ∀ (ls : Array Slot) (H : Heap) (locs : List Loc), lv_has ls 10 [(0, .ref o), (1, .long (ds_f p9 kk sg)), (3, .long bf), (5, .int (nI kk)), (6, .int (nI p9))] → va_P D kc_all [(o, .inr (7, [.int thr, .int (nI n), .ref ml, .ref mm, .ref mw, .ref mc, .int (nI k), .ref mg, .ref md, .int so, .int fo, .ref mb, .long bb, .long bc, .ref mt, .long be, .ref mr, .int (nI rs), .ref mo, .int (nI rc), .ref mx, .ref mp, .ref nk, .ref na, .ref nv, .ref nf, .ref ns, .ref ne, .ref nw, .ref mf])), (mx, .inl (cL, 16, .inr (.inl mt3)))] H → va_D A [(o, .inr (7, [.int thr, .int (nI n), .ref ml, .ref mm, .ref mw, .ref mc, .int (nI k), .ref mg, .ref md, .int so, .int fo, .ref mb, .long bb, .long bc, .ref mt, .long be, .ref mr, .int (nI rs), .ref mo, .int (nI rc), .ref mx, .ref mp, .ref nk, .ref na, .ref nv, .ref nf, .ref ns, .ref ne, .ref nw, .ref mf])), (mx, .inl (cL, 16, .inr (.inl mt3)))] → va_S A s.heap H locs → W p l e (headSpec ww_Model_determinant ({ frames := 0, cells := 0, slots := 0, locals := 0 } : Room)).room s m ([.ref o]).toArray below meth c H locs 0 0 (MQ below (qq_Model_determinant D cI cZ cL cQ o ml mm mw mc mg md mb mt mr mo mx mp nk na nv nf ns ne nw mf thr n k so fo bb bc be rs rc m0 A) ([.ref o]).toArray s 0 0 A) (F0 m 156 ls []) := by
                          intro   ls H locs hl hP hD hS
                          refine lv_iload hx hb dd_Model_determinant_156 (lv_at hl 3 rfl) ?_
                          refine lv_iconst (v := 1) hx hb dd_Model_determinant_158 (by decide) ?_
                          refine lv_iadd hx hb dd_Model_determinant_159 ?_
                          refine mm_topi (y := nI (kk + 1)) (nI_add kk 1) ?_
                          refine lv_istore (lv' := [(7, .int (nI (kk + 1))), (0, .ref o), (1, .long (ds_f p9 kk sg)), (3, .long bf), (5, .int (nI kk)), (6, .int (nI p9))]) hx hb dd_Model_determinant_160 hl (by decide) rfl (fun ls hl => ?_)
                          have J162 : ∀ (N : Nat) (r9 : Nat) (mt4 : Nat → Int64), (rs - r9) < N → ∀ (hr9 : kk + 1 ≤ r9 ∧ r9 ≤ rs) (hm4 : mt4 = el_f mt3 kk bf rs r9 (kk + 1)), ∀ (ls : Array Slot) (H : Heap) (locs : List Loc), lv_has ls 10 [(0, .ref o), (1, .long (ds_f p9 kk sg)), (3, .long bf), (5, .int (nI kk)), (7, .int (nI r9))] → va_P D kc_all [(o, .inr (7, [.int thr, .int (nI n), .ref ml, .ref mm, .ref mw, .ref mc, .int (nI k), .ref mg, .ref md, .int so, .int fo, .ref mb, .long bb, .long bc, .ref mt, .long be, .ref mr, .int (nI rs), .ref mo, .int (nI rc), .ref mx, .ref mp, .ref nk, .ref na, .ref nv, .ref nf, .ref ns, .ref ne, .ref nw, .ref mf])), (mx, .inl (cL, 16, .inr (.inl mt4)))] H → va_D A [(o, .inr (7, [.int thr, .int (nI n), .ref ml, .ref mm, .ref mw, .ref mc, .int (nI k), .ref mg, .ref md, .int so, .int fo, .ref mb, .long bb, .long bc, .ref mt, .long be, .ref mr, .int (nI rs), .ref mo, .int (nI rc), .ref mx, .ref mp, .ref nk, .ref na, .ref nv, .ref nf, .ref ns, .ref ne, .ref nw, .ref mf])), (mx, .inl (cL, 16, .inr (.inl mt4)))] → va_S A s.heap H locs → W p l e (headSpec ww_Model_determinant ({ frames := 0, cells := 0, slots := 0, locals := 0 } : Room)).room s m ([.ref o]).toArray below meth c H locs 0 0 (MQ below (qq_Model_determinant D cI cZ cL cQ o ml mm mw mc mg md mb mt mr mo mx mp nk na nv nf ns ne nw mf thr n k so fo bb bc be rs rc m0 A) ([.ref o]).toArray s 0 0 A) (F0 m 162 ls []) := by
                            intro N
                            induction N with
                            | zero => intro r9 mt4 hN9; exact absurd hN9 (Nat.not_lt_zero _)
                            | succ N IH162 =>
                              intro r9 mt4 hN9 hr9 hm4 ls H locs hl hP hD hS
                              refine lv_iload hx hb dd_Model_determinant_162 (lv_at hl 4 rfl) ?_
                              refine lv_aload_n hx hb dd_Model_determinant_164 rfl (lv_at hl 0 rfl) ?_
                              refine va_get (D := D) (ci := 7) (v := .int (nI rs)) (C := RR_Model) (T := FF_Model) (N := 30) hx hb htb hi_Model hown hK hP 0 rfl rfl 17 (by decide) hf_111 (fun _ h9 => h9) rfl dd_Model_determinant_165 ?_
                              refine lv_icmp_ge (tgt := 263) hx hb dd_Model_determinant_168 (by decide) (fun h168 => ?_) (fun h168 => ?_)
                              · skip
                                have h168 : rs ≤ r9 := (nI_leI (a := rs) (b := r9) (by omega) (by omega)).mp h168
                                refine lv_aload_n hx hb dd_Model_determinant_263 rfl (lv_at hl 0 rfl) ?_
                                refine va_get (D := D) (ci := 7) (v := .ref mx) (C := RR_Model) (T := FF_Model) (N := 30) hx hb htb hi_Model hown hK hP 0 rfl rfl 20 (by decide) hf_46 (fun _ h9 => h9) rfl dd_Model_determinant_264 ?_
                                refine lv_iconst (v := 4) hx hb dd_Model_determinant_267 (by decide) ?_
                                refine lv_iload hx hb dd_Model_determinant_268 (lv_at hl 3 rfl) ?_
                                refine lv_imul hx hb dd_Model_determinant_270 ?_
                                refine mm_topi (y := nI (4 * kk)) (pk_mul 4 kk) ?_
                                refine lv_iload hx hb dd_Model_determinant_271 (lv_at hl 3 rfl) ?_
                                refine lv_iadd hx hb dd_Model_determinant_273 ?_
                                refine mm_topi (y := nI ((4 * kk) + kk)) (nI_add (4 * kk) kk) ?_
                                refine mm_lald hx hb hK hP 1 2 rfl rfl ((4 * kk) + kk) (rfl) (by omega) (by first | decide | omega) dd_Model_determinant_274 ?_
                                refine lv_lstore_n (lv' := [(3, .long (mt4 ((4 * kk) + kk))), (0, .ref o), (1, .long (ds_f p9 kk sg)), (5, .int (nI kk)), (7, .int (nI r9))]) hx hb dd_Model_determinant_275 rfl hl (by decide) rfl (fun ls hl => ?_)
                                refine lv_iinc (k := 3) (v := nI (kk + 1)) (lv' := [(5, .int (nI (kk + 1))), (3, .long (mt4 ((4 * kk) + kk))), (0, .ref o), (1, .long (ds_f p9 kk sg)), (7, .int (nI r9))]) hx hb dd_Model_determinant_276 hl rfl (nI_1 _) (by decide) rfl (fun ls hl => ?_)
                                refine lv_goto (tgt := 7) hx hb dd_Model_determinant_279 (by decide) ?_
                                exact IH7 (kk + 1) mt4 (ds_f p9 kk sg) (mt4 ((4 * kk) + kk)) (by omega) (by omega) (by rw [el_d (by omega) hm4, hm3, sq_d (by omega) (by omega)]; exact hq.2) (dt_s (by omega) (by omega) hv hpp hq.1 hm3 (by rw [show rs = r9 by omega]; rw [show rs = r9 by omega] at hm4; exact hm4)) ls H locs (lv_sub hl [2, 3, 1, 0] rfl) hP hD hS
                              · skip
                                have h168 : ¬ (rs ≤ r9) := fun q9 => h168 ((nI_leI (a := rs) (b := r9) (by omega) (by omega)).mpr q9)
                                refine lv_iload hx hb dd_Model_determinant_171 (lv_at hl 3 rfl) ?_
                                refine lv_iconst (v := 1) hx hb dd_Model_determinant_173 (by decide) ?_
                                refine lv_iadd hx hb dd_Model_determinant_174 ?_
                                refine mm_topi (y := nI (kk + 1)) (nI_add kk 1) ?_
                                refine lv_istore (lv' := [(8, .int (nI (kk + 1))), (0, .ref o), (1, .long (ds_f p9 kk sg)), (3, .long bf), (5, .int (nI kk)), (7, .int (nI r9))]) hx hb dd_Model_determinant_175 hl (by decide) rfl (fun ls hl => ?_)
                                have J177 : ∀ (N : Nat) (c8 : Nat) (mt5 : Nat → Int64), (rs - c8) < N → ∀ (hc8 : kk + 1 ≤ c8 ∧ c8 ≤ rs) (hm5 : mt5 = el_f mt3 kk bf rs r9 c8), ∀ (ls : Array Slot) (H : Heap) (locs : List Loc), lv_has ls 10 [(0, .ref o), (1, .long (ds_f p9 kk sg)), (3, .long bf), (5, .int (nI kk)), (7, .int (nI r9)), (8, .int (nI c8))] → va_P D kc_all [(o, .inr (7, [.int thr, .int (nI n), .ref ml, .ref mm, .ref mw, .ref mc, .int (nI k), .ref mg, .ref md, .int so, .int fo, .ref mb, .long bb, .long bc, .ref mt, .long be, .ref mr, .int (nI rs), .ref mo, .int (nI rc), .ref mx, .ref mp, .ref nk, .ref na, .ref nv, .ref nf, .ref ns, .ref ne, .ref nw, .ref mf])), (mx, .inl (cL, 16, .inr (.inl mt5)))] H → va_D A [(o, .inr (7, [.int thr, .int (nI n), .ref ml, .ref mm, .ref mw, .ref mc, .int (nI k), .ref mg, .ref md, .int so, .int fo, .ref mb, .long bb, .long bc, .ref mt, .long be, .ref mr, .int (nI rs), .ref mo, .int (nI rc), .ref mx, .ref mp, .ref nk, .ref na, .ref nv, .ref nf, .ref ns, .ref ne, .ref nw, .ref mf])), (mx, .inl (cL, 16, .inr (.inl mt5)))] → va_S A s.heap H locs → W p l e (headSpec ww_Model_determinant ({ frames := 0, cells := 0, slots := 0, locals := 0 } : Room)).room s m ([.ref o]).toArray below meth c H locs 0 0 (MQ below (qq_Model_determinant D cI cZ cL cQ o ml mm mw mc mg md mb mt mr mo mx mp nk na nv nf ns ne nw mf thr n k so fo bb bc be rs rc m0 A) ([.ref o]).toArray s 0 0 A) (F0 m 177 ls []) := by
                                  intro N
                                  induction N with
                                  | zero => intro c8 mt5 hN9; exact absurd hN9 (Nat.not_lt_zero _)
                                  | succ N IH177 =>
                                    intro c8 mt5 hN9 hc8 hm5 ls H locs hl hP hD hS
                                    refine lv_iload hx hb dd_Model_determinant_177 (lv_at hl 5 rfl) ?_
                                    refine lv_aload_n hx hb dd_Model_determinant_179 rfl (lv_at hl 0 rfl) ?_
                                    refine va_get (D := D) (ci := 7) (v := .int (nI rs)) (C := RR_Model) (T := FF_Model) (N := 30) hx hb htb hi_Model hown hK hP 0 rfl rfl 17 (by decide) hf_111 (fun _ h9 => h9) rfl dd_Model_determinant_180 ?_
                                    refine lv_icmp_ge (tgt := 257) hx hb dd_Model_determinant_183 (by decide) (fun h183 => ?_) (fun h183 => ?_)
                                    · skip
                                      have h183 : rs ≤ c8 := (nI_leI (a := rs) (b := c8) (by omega) (by omega)).mp h183
                                      refine lv_iinc (k := 4) (v := nI (r9 + 1)) (lv' := [(7, .int (nI (r9 + 1))), (0, .ref o), (1, .long (ds_f p9 kk sg)), (3, .long bf), (5, .int (nI kk)), (8, .int (nI c8))]) hx hb dd_Model_determinant_257 hl rfl (nI_1 _) (by decide) rfl (fun ls hl => ?_)
                                      refine lv_goto (tgt := 162) hx hb dd_Model_determinant_260 (by decide) ?_
                                      exact IH162 (r9 + 1) mt5 (by omega) (by omega) (el_r (by omega) hm5) ls H locs (lv_sub hl [1, 2, 3, 4, 0] rfl) hP hD hS
                                    · skip
                                      have h183 : ¬ (rs ≤ c8) := fun q9 => h183 ((nI_leI (a := rs) (b := c8) (by omega) (by omega)).mpr q9)
                                      refine lv_aload_n hx hb dd_Model_determinant_186 rfl (lv_at hl 0 rfl) ?_
                                      refine va_get (D := D) (ci := 7) (v := .ref mx) (C := RR_Model) (T := FF_Model) (N := 30) hx hb htb hi_Model hown hK hP 0 rfl rfl 20 (by decide) hf_46 (fun _ h9 => h9) rfl dd_Model_determinant_187 ?_
                                      refine lv_iconst (v := 4) hx hb dd_Model_determinant_190 (by decide) ?_
                                      refine lv_iload hx hb dd_Model_determinant_191 (lv_at hl 4 rfl) ?_
                                      refine lv_imul hx hb dd_Model_determinant_193 ?_
                                      refine mm_topi (y := nI (4 * r9)) (pk_mul 4 r9) ?_
                                      refine lv_iload hx hb dd_Model_determinant_194 (lv_at hl 5 rfl) ?_
                                      refine lv_iadd hx hb dd_Model_determinant_196 ?_
                                      refine mm_topi (y := nI ((4 * r9) + c8)) (nI_add (4 * r9) c8) ?_
                                      refine lv_aload_n hx hb dd_Model_determinant_197 rfl (lv_at hl 0 rfl) ?_
                                      refine va_get (D := D) (ci := 7) (v := .ref mx) (C := RR_Model) (T := FF_Model) (N := 30) hx hb htb hi_Model hown hK hP 0 rfl rfl 20 (by decide) hf_46 (fun _ h9 => h9) rfl dd_Model_determinant_198 ?_
                                      refine lv_iconst (v := 4) hx hb dd_Model_determinant_201 (by decide) ?_
                                      refine lv_iload hx hb dd_Model_determinant_202 (lv_at hl 4 rfl) ?_
                                      refine lv_imul hx hb dd_Model_determinant_204 ?_
                                      refine mm_topi (y := nI (4 * r9)) (pk_mul 4 r9) ?_
                                      refine lv_iload hx hb dd_Model_determinant_205 (lv_at hl 5 rfl) ?_
                                      refine lv_iadd hx hb dd_Model_determinant_207 ?_
                                      refine mm_topi (y := nI ((4 * r9) + c8)) (nI_add (4 * r9) c8) ?_
                                      refine mm_lald hx hb hK hP 1 2 rfl rfl ((4 * r9) + c8) (rfl) (by omega) (by first | decide | omega) dd_Model_determinant_208 ?_
                                      refine lv_aload_n hx hb dd_Model_determinant_209 rfl (lv_at hl 0 rfl) ?_
                                      refine va_get (D := D) (ci := 7) (v := .ref mx) (C := RR_Model) (T := FF_Model) (N := 30) hx hb htb hi_Model hown hK hP 0 rfl rfl 20 (by decide) hf_46 (fun _ h9 => h9) rfl dd_Model_determinant_210 ?_
                                      refine lv_iconst (v := 4) hx hb dd_Model_determinant_213 (by decide) ?_
                                      refine lv_iload hx hb dd_Model_determinant_214 (lv_at hl 3 rfl) ?_
                                      refine lv_imul hx hb dd_Model_determinant_216 ?_
                                      refine mm_topi (y := nI (4 * kk)) (pk_mul 4 kk) ?_
                                      refine lv_iload hx hb dd_Model_determinant_217 (lv_at hl 3 rfl) ?_
                                      refine lv_iadd hx hb dd_Model_determinant_219 ?_
                                      refine mm_topi (y := nI ((4 * kk) + kk)) (nI_add (4 * kk) kk) ?_
                                      refine mm_lald hx hb hK hP 1 2 rfl rfl ((4 * kk) + kk) (rfl) (by omega) (by first | decide | omega) dd_Model_determinant_220 ?_
                                      refine lv_lmul hx hb dd_Model_determinant_221 ?_
                                      refine lv_aload_n hx hb dd_Model_determinant_222 rfl (lv_at hl 0 rfl) ?_
                                      refine va_get (D := D) (ci := 7) (v := .ref mx) (C := RR_Model) (T := FF_Model) (N := 30) hx hb htb hi_Model hown hK hP 0 rfl rfl 20 (by decide) hf_46 (fun _ h9 => h9) rfl dd_Model_determinant_223 ?_
                                      refine lv_iconst (v := 4) hx hb dd_Model_determinant_226 (by decide) ?_
                                      refine lv_iload hx hb dd_Model_determinant_227 (lv_at hl 4 rfl) ?_
                                      refine lv_imul hx hb dd_Model_determinant_229 ?_
                                      refine mm_topi (y := nI (4 * r9)) (pk_mul 4 r9) ?_
                                      refine lv_iload hx hb dd_Model_determinant_230 (lv_at hl 3 rfl) ?_
                                      refine lv_iadd hx hb dd_Model_determinant_232 ?_
                                      refine mm_topi (y := nI ((4 * r9) + kk)) (nI_add (4 * r9) kk) ?_
                                      refine mm_lald hx hb hK hP 1 2 rfl rfl ((4 * r9) + kk) (rfl) (by omega) (by first | decide | omega) dd_Model_determinant_233 ?_
                                      refine lv_aload_n hx hb dd_Model_determinant_234 rfl (lv_at hl 0 rfl) ?_
                                      refine va_get (D := D) (ci := 7) (v := .ref mx) (C := RR_Model) (T := FF_Model) (N := 30) hx hb htb hi_Model hown hK hP 0 rfl rfl 20 (by decide) hf_46 (fun _ h9 => h9) rfl dd_Model_determinant_235 ?_
                                      refine lv_iconst (v := 4) hx hb dd_Model_determinant_238 (by decide) ?_
                                      refine lv_iload hx hb dd_Model_determinant_239 (lv_at hl 3 rfl) ?_
                                      refine lv_imul hx hb dd_Model_determinant_241 ?_
                                      refine mm_topi (y := nI (4 * kk)) (pk_mul 4 kk) ?_
                                      refine lv_iload hx hb dd_Model_determinant_242 (lv_at hl 5 rfl) ?_
                                      refine lv_iadd hx hb dd_Model_determinant_244 ?_
                                      refine mm_topi (y := nI ((4 * kk) + c8)) (nI_add (4 * kk) c8) ?_
                                      refine mm_lald hx hb hK hP 1 2 rfl rfl ((4 * kk) + c8) (rfl) (by omega) (by first | decide | omega) dd_Model_determinant_245 ?_
                                      refine lv_lmul hx hb dd_Model_determinant_246 ?_
                                      refine lv_lsub hx hb dd_Model_determinant_247 ?_
                                      refine lv_lload_n hx hb dd_Model_determinant_248 rfl (lv_at hl 2 rfl) ?_
                                      refine lv_ldiv hx hb dd_Model_determinant_249 (hbf) ?_
                                      refine mm_last hx hb hK hP hD hS 1 2 rfl rfl ((4 * r9) + c8) (rfl) (by omega) (by first | decide | omega) dd_Model_determinant_250 (fun H locs hP hD hS => ?_)
                                      have hP : va_P D kc_all [(o, .inr (7, [.int thr, .int (nI n), .ref ml, .ref mm, .ref mw, .ref mc, .int (nI k), .ref mg, .ref md, .int so, .int fo, .ref mb, .long bb, .long bc, .ref mt, .long be, .ref mr, .int (nI rs), .ref mo, .int (nI rc), .ref mx, .ref mp, .ref nk, .ref na, .ref nv, .ref nf, .ref ns, .ref ne, .ref nw, .ref mf])), (mx, .inl (cL, 16, .inr (.inl (vp_updL mt5 ((4 * r9) + c8) ((((mt5 ((4 * r9) + c8)) * (mt5 ((4 * kk) + kk))) - ((mt5 ((4 * r9) + kk)) * (mt5 ((4 * kk) + c8)))) / bf)))))] H := hP
                                      have hD : va_D A [(o, .inr (7, [.int thr, .int (nI n), .ref ml, .ref mm, .ref mw, .ref mc, .int (nI k), .ref mg, .ref md, .int so, .int fo, .ref mb, .long bb, .long bc, .ref mt, .long be, .ref mr, .int (nI rs), .ref mo, .int (nI rc), .ref mx, .ref mp, .ref nk, .ref na, .ref nv, .ref nf, .ref ns, .ref ne, .ref nw, .ref mf])), (mx, .inl (cL, 16, .inr (.inl (vp_updL mt5 ((4 * r9) + c8) ((((mt5 ((4 * r9) + c8)) * (mt5 ((4 * kk) + kk))) - ((mt5 ((4 * r9) + kk)) * (mt5 ((4 * kk) + c8)))) / bf)))))] := hD
                                      refine lv_iinc (k := 5) (v := nI (c8 + 1)) (lv' := [(8, .int (nI (c8 + 1))), (0, .ref o), (1, .long (ds_f p9 kk sg)), (3, .long bf), (5, .int (nI kk)), (7, .int (nI r9))]) hx hb dd_Model_determinant_251 hl rfl (nI_1 _) (by decide) rfl (fun ls hl => ?_)
                                      refine lv_goto (tgt := 177) hx hb dd_Model_determinant_254 (by decide) ?_
                                      exact IH177 (c8 + 1) (vp_updL mt5 ((4 * r9) + c8) ((((mt5 ((4 * r9) + c8)) * (mt5 ((4 * kk) + kk))) - ((mt5 ((4 * r9) + kk)) * (mt5 ((4 * kk) + c8)))) / bf)) (by omega) (by omega) (el_s (by omega) (by omega) (by omega) hm5) ls H locs (lv_sub hl [1, 2, 3, 4, 5, 0] rfl) hP hD hS
                                exact J177 _ (kk + 1) mt4 (Nat.lt_succ_self _) (by omega) (hm4) ls H locs (lv_sub hl [1, 2, 3, 4, 5, 0] rfl) hP hD hS
                          exact J162 _ (kk + 1) mt3 (Nat.lt_succ_self _) (by omega) (el_0) ls H locs (lv_sub hl [1, 2, 3, 4, 0] rfl) hP hD hS
                        refine lv_iload hx hb dd_Model_determinant_142 (lv_at hl 4 rfl) ?_
                        refine lv_iload hx hb dd_Model_determinant_144 (lv_at hl 3 rfl) ?_
                        refine lv_icmp_eq (tgt := 154) hx hb dd_Model_determinant_146 (by decide) (fun h146 => ?_) (fun h146 => ?_)
                        · skip
                          have h146 : p9 = kk := (nI_eq (a := p9) (b := kk) (by omega) (by omega)).mp h146
                          refine lv_lload_n hx hb dd_Model_determinant_154 rfl (lv_at hl 1 rfl) ?_
                          refine mm_topl (y := ds_f p9 kk sg) (by first | exact (if_pos h146).symm | exact (if_neg h146).symm) ?_
                          refine lv_lstore_n (lv' := [(1, .long (ds_f p9 kk sg)), (0, .ref o), (3, .long bf), (5, .int (nI kk)), (6, .int (nI p9))]) hx hb dd_Model_determinant_155 rfl hl (by decide) rfl (fun ls hl => ?_)
                          exact J156   ls H locs (lv_sub hl [1, 0, 2, 3, 4] rfl) hP hD hS
                        · skip
                          have h146 : ¬ (p9 = kk) := fun q9 => h146 ((nI_eq (a := p9) (b := kk) (by omega) (by omega)).mpr q9)
                          refine lv_lload_n hx hb dd_Model_determinant_149 rfl (lv_at hl 1 rfl) ?_
                          refine lv_lneg hx hb dd_Model_determinant_150 ?_
                          refine lv_goto (tgt := 155) hx hb dd_Model_determinant_151 (by decide) ?_
                          refine mm_topl (y := ds_f p9 kk sg) (by first | exact (if_pos h146).symm | exact (if_neg h146).symm) ?_
                          refine lv_lstore_n (lv' := [(1, .long (ds_f p9 kk sg)), (0, .ref o), (3, .long bf), (5, .int (nI kk)), (6, .int (nI p9))]) hx hb dd_Model_determinant_155 rfl hl (by decide) rfl (fun ls hl => ?_)
                          exact J156   ls H locs (lv_sub hl [1, 0, 2, 3, 4] rfl) hP hD hS
                      exact J142 mt2 (by first | exact sq_id h81 hm2 | (rw [show rs = c9 by omega]; exact hm2)) ls H locs (lv_sub hl [0, 1, 2, 3, 4] rfl) hP hD hS
                    · skip
                      have h74 : ¬ (rs ≤ c9) := fun q9 => h74 ((nI_leI (a := rs) (b := c9) (by omega) (by omega)).mpr q9)
                      refine lv_iload hx hb dd_Model_determinant_77 (lv_at hl 4 rfl) ?_
                      refine lv_iload hx hb dd_Model_determinant_79 (lv_at hl 3 rfl) ?_
                      refine lv_icmp_eq (tgt := 142) hx hb dd_Model_determinant_81 (by decide) (fun h81 => ?_) (fun h81 => ?_)
                      · skip
                        have h81 : p9 = kk := (nI_eq (a := p9) (b := kk) (by omega) (by omega)).mp h81
                        have J142 : ∀ (mt3 : Nat → Int64) (hm3 : mt3 = sq_f mt9 p9 kk rs), ∀ (ls : Array Slot) (H : Heap) (locs : List Loc), lv_has ls 10 [(0, .ref o), (1, .long sg), (3, .long bf), (5, .int (nI kk)), (6, .int (nI p9))] → va_P D kc_all [(o, .inr (7, [.int thr, .int (nI n), .ref ml, .ref mm, .ref mw, .ref mc, .int (nI k), .ref mg, .ref md, .int so, .int fo, .ref mb, .long bb, .long bc, .ref mt, .long be, .ref mr, .int (nI rs), .ref mo, .int (nI rc), .ref mx, .ref mp, .ref nk, .ref na, .ref nv, .ref nf, .ref ns, .ref ne, .ref nw, .ref mf])), (mx, .inl (cL, 16, .inr (.inl mt3)))] H → va_D A [(o, .inr (7, [.int thr, .int (nI n), .ref ml, .ref mm, .ref mw, .ref mc, .int (nI k), .ref mg, .ref md, .int so, .int fo, .ref mb, .long bb, .long bc, .ref mt, .long be, .ref mr, .int (nI rs), .ref mo, .int (nI rc), .ref mx, .ref mp, .ref nk, .ref na, .ref nv, .ref nf, .ref ns, .ref ne, .ref nw, .ref mf])), (mx, .inl (cL, 16, .inr (.inl mt3)))] → va_S A s.heap H locs → W p l e (headSpec ww_Model_determinant ({ frames := 0, cells := 0, slots := 0, locals := 0 } : Room)).room s m ([.ref o]).toArray below meth c H locs 0 0 (MQ below (qq_Model_determinant D cI cZ cL cQ o ml mm mw mc mg md mb mt mr mo mx mp nk na nv nf ns ne nw mf thr n k so fo bb bc be rs rc m0 A) ([.ref o]).toArray s 0 0 A) (F0 m 142 ls []) := by
                          intro mt3 hm3 ls H locs hl hP hD hS
                          have J156 : ∀ (ls : Array Slot) (H : Heap) (locs : List Loc), lv_has ls 10 [(0, .ref o), (1, .long (ds_f p9 kk sg)), (3, .long bf), (5, .int (nI kk)), (6, .int (nI p9))] → va_P D kc_all [(o, .inr (7, [.int thr, .int (nI n), .ref ml, .ref mm, .ref mw, .ref mc, .int (nI k), .ref mg, .ref md, .int so, .int fo, .ref mb, .long bb, .long bc, .ref mt, .long be, .ref mr, .int (nI rs), .ref mo, .int (nI rc), .ref mx, .ref mp, .ref nk, .ref na, .ref nv, .ref nf, .ref ns, .ref ne, .ref nw, .ref mf])), (mx, .inl (cL, 16, .inr (.inl mt3)))] H → va_D A [(o, .inr (7, [.int thr, .int (nI n), .ref ml, .ref mm, .ref mw, .ref mc, .int (nI k), .ref mg, .ref md, .int so, .int fo, .ref mb, .long bb, .long bc, .ref mt, .long be, .ref mr, .int (nI rs), .ref mo, .int (nI rc), .ref mx, .ref mp, .ref nk, .ref na, .ref nv, .ref nf, .ref ns, .ref ne, .ref nw, .ref mf])), (mx, .inl (cL, 16, .inr (.inl mt3)))] → va_S A s.heap H locs → W p l e (headSpec ww_Model_determinant ({ frames := 0, cells := 0, slots := 0, locals := 0 } : Room)).room s m ([.ref o]).toArray below meth c H locs 0 0 (MQ below (qq_Model_determinant D cI cZ cL cQ o ml mm mw mc mg md mb mt mr mo mx mp nk na nv nf ns ne nw mf thr n k so fo bb bc be rs rc m0 A) ([.ref o]).toArray s 0 0 A) (F0 m 156 ls []) := by
                            intro   ls H locs hl hP hD hS
                            refine lv_iload hx hb dd_Model_determinant_156 (lv_at hl 3 rfl) ?_
                            refine lv_iconst (v := 1) hx hb dd_Model_determinant_158 (by decide) ?_
                            refine lv_iadd hx hb dd_Model_determinant_159 ?_
                            refine mm_topi (y := nI (kk + 1)) (nI_add kk 1) ?_
                            refine lv_istore (lv' := [(7, .int (nI (kk + 1))), (0, .ref o), (1, .long (ds_f p9 kk sg)), (3, .long bf), (5, .int (nI kk)), (6, .int (nI p9))]) hx hb dd_Model_determinant_160 hl (by decide) rfl (fun ls hl => ?_)
                            have J162 : ∀ (N : Nat) (r9 : Nat) (mt4 : Nat → Int64), (rs - r9) < N → ∀ (hr9 : kk + 1 ≤ r9 ∧ r9 ≤ rs) (hm4 : mt4 = el_f mt3 kk bf rs r9 (kk + 1)), ∀ (ls : Array Slot) (H : Heap) (locs : List Loc), lv_has ls 10 [(0, .ref o), (1, .long (ds_f p9 kk sg)), (3, .long bf), (5, .int (nI kk)), (7, .int (nI r9))] → va_P D kc_all [(o, .inr (7, [.int thr, .int (nI n), .ref ml, .ref mm, .ref mw, .ref mc, .int (nI k), .ref mg, .ref md, .int so, .int fo, .ref mb, .long bb, .long bc, .ref mt, .long be, .ref mr, .int (nI rs), .ref mo, .int (nI rc), .ref mx, .ref mp, .ref nk, .ref na, .ref nv, .ref nf, .ref ns, .ref ne, .ref nw, .ref mf])), (mx, .inl (cL, 16, .inr (.inl mt4)))] H → va_D A [(o, .inr (7, [.int thr, .int (nI n), .ref ml, .ref mm, .ref mw, .ref mc, .int (nI k), .ref mg, .ref md, .int so, .int fo, .ref mb, .long bb, .long bc, .ref mt, .long be, .ref mr, .int (nI rs), .ref mo, .int (nI rc), .ref mx, .ref mp, .ref nk, .ref na, .ref nv, .ref nf, .ref ns, .ref ne, .ref nw, .ref mf])), (mx, .inl (cL, 16, .inr (.inl mt4)))] → va_S A s.heap H locs → W p l e (headSpec ww_Model_determinant ({ frames := 0, cells := 0, slots := 0, locals := 0 } : Room)).room s m ([.ref o]).toArray below meth c H locs 0 0 (MQ below (qq_Model_determinant D cI cZ cL cQ o ml mm mw mc mg md mb mt mr mo mx mp nk na nv nf ns ne nw mf thr n k so fo bb bc be rs rc m0 A) ([.ref o]).toArray s 0 0 A) (F0 m 162 ls []) := by
                              intro N
                              induction N with
                              | zero => intro r9 mt4 hN9; exact absurd hN9 (Nat.not_lt_zero _)
                              | succ N IH162 =>
                                intro r9 mt4 hN9 hr9 hm4 ls H locs hl hP hD hS
                                refine lv_iload hx hb dd_Model_determinant_162 (lv_at hl 4 rfl) ?_
                                refine lv_aload_n hx hb dd_Model_determinant_164 rfl (lv_at hl 0 rfl) ?_
                                refine va_get (D := D) (ci := 7) (v := .int (nI rs)) (C := RR_Model) (T := FF_Model) (N := 30) hx hb htb hi_Model hown hK hP 0 rfl rfl 17 (by decide) hf_111 (fun _ h9 => h9) rfl dd_Model_determinant_165 ?_
                                refine lv_icmp_ge (tgt := 263) hx hb dd_Model_determinant_168 (by decide) (fun h168 => ?_) (fun h168 => ?_)
                                · skip
                                  have h168 : rs ≤ r9 := (nI_leI (a := rs) (b := r9) (by omega) (by omega)).mp h168
                                  refine lv_aload_n hx hb dd_Model_determinant_263 rfl (lv_at hl 0 rfl) ?_
                                  refine va_get (D := D) (ci := 7) (v := .ref mx) (C := RR_Model) (T := FF_Model) (N := 30) hx hb htb hi_Model hown hK hP 0 rfl rfl 20 (by decide) hf_46 (fun _ h9 => h9) rfl dd_Model_determinant_264 ?_
                                  refine lv_iconst (v := 4) hx hb dd_Model_determinant_267 (by decide) ?_
                                  refine lv_iload hx hb dd_Model_determinant_268 (lv_at hl 3 rfl) ?_
                                  refine lv_imul hx hb dd_Model_determinant_270 ?_
                                  refine mm_topi (y := nI (4 * kk)) (pk_mul 4 kk) ?_
                                  refine lv_iload hx hb dd_Model_determinant_271 (lv_at hl 3 rfl) ?_
                                  refine lv_iadd hx hb dd_Model_determinant_273 ?_
                                  refine mm_topi (y := nI ((4 * kk) + kk)) (nI_add (4 * kk) kk) ?_
                                  refine mm_lald hx hb hK hP 1 2 rfl rfl ((4 * kk) + kk) (rfl) (by omega) (by first | decide | omega) dd_Model_determinant_274 ?_
                                  refine lv_lstore_n (lv' := [(3, .long (mt4 ((4 * kk) + kk))), (0, .ref o), (1, .long (ds_f p9 kk sg)), (5, .int (nI kk)), (7, .int (nI r9))]) hx hb dd_Model_determinant_275 rfl hl (by decide) rfl (fun ls hl => ?_)
                                  refine lv_iinc (k := 3) (v := nI (kk + 1)) (lv' := [(5, .int (nI (kk + 1))), (3, .long (mt4 ((4 * kk) + kk))), (0, .ref o), (1, .long (ds_f p9 kk sg)), (7, .int (nI r9))]) hx hb dd_Model_determinant_276 hl rfl (nI_1 _) (by decide) rfl (fun ls hl => ?_)
                                  refine lv_goto (tgt := 7) hx hb dd_Model_determinant_279 (by decide) ?_
                                  exact IH7 (kk + 1) mt4 (ds_f p9 kk sg) (mt4 ((4 * kk) + kk)) (by omega) (by omega) (by rw [el_d (by omega) hm4, hm3, sq_d (by omega) (by omega)]; exact hq.2) (dt_s (by omega) (by omega) hv hpp hq.1 hm3 (by rw [show rs = r9 by omega]; rw [show rs = r9 by omega] at hm4; exact hm4)) ls H locs (lv_sub hl [2, 3, 1, 0] rfl) hP hD hS
                                · skip
                                  have h168 : ¬ (rs ≤ r9) := fun q9 => h168 ((nI_leI (a := rs) (b := r9) (by omega) (by omega)).mpr q9)
                                  refine lv_iload hx hb dd_Model_determinant_171 (lv_at hl 3 rfl) ?_
                                  refine lv_iconst (v := 1) hx hb dd_Model_determinant_173 (by decide) ?_
                                  refine lv_iadd hx hb dd_Model_determinant_174 ?_
                                  refine mm_topi (y := nI (kk + 1)) (nI_add kk 1) ?_
                                  refine lv_istore (lv' := [(8, .int (nI (kk + 1))), (0, .ref o), (1, .long (ds_f p9 kk sg)), (3, .long bf), (5, .int (nI kk)), (7, .int (nI r9))]) hx hb dd_Model_determinant_175 hl (by decide) rfl (fun ls hl => ?_)
                                  have J177 : ∀ (N : Nat) (c8 : Nat) (mt5 : Nat → Int64), (rs - c8) < N → ∀ (hc8 : kk + 1 ≤ c8 ∧ c8 ≤ rs) (hm5 : mt5 = el_f mt3 kk bf rs r9 c8), ∀ (ls : Array Slot) (H : Heap) (locs : List Loc), lv_has ls 10 [(0, .ref o), (1, .long (ds_f p9 kk sg)), (3, .long bf), (5, .int (nI kk)), (7, .int (nI r9)), (8, .int (nI c8))] → va_P D kc_all [(o, .inr (7, [.int thr, .int (nI n), .ref ml, .ref mm, .ref mw, .ref mc, .int (nI k), .ref mg, .ref md, .int so, .int fo, .ref mb, .long bb, .long bc, .ref mt, .long be, .ref mr, .int (nI rs), .ref mo, .int (nI rc), .ref mx, .ref mp, .ref nk, .ref na, .ref nv, .ref nf, .ref ns, .ref ne, .ref nw, .ref mf])), (mx, .inl (cL, 16, .inr (.inl mt5)))] H → va_D A [(o, .inr (7, [.int thr, .int (nI n), .ref ml, .ref mm, .ref mw, .ref mc, .int (nI k), .ref mg, .ref md, .int so, .int fo, .ref mb, .long bb, .long bc, .ref mt, .long be, .ref mr, .int (nI rs), .ref mo, .int (nI rc), .ref mx, .ref mp, .ref nk, .ref na, .ref nv, .ref nf, .ref ns, .ref ne, .ref nw, .ref mf])), (mx, .inl (cL, 16, .inr (.inl mt5)))] → va_S A s.heap H locs → W p l e (headSpec ww_Model_determinant ({ frames := 0, cells := 0, slots := 0, locals := 0 } : Room)).room s m ([.ref o]).toArray below meth c H locs 0 0 (MQ below (qq_Model_determinant D cI cZ cL cQ o ml mm mw mc mg md mb mt mr mo mx mp nk na nv nf ns ne nw mf thr n k so fo bb bc be rs rc m0 A) ([.ref o]).toArray s 0 0 A) (F0 m 177 ls []) := by
                                    intro N
                                    induction N with
                                    | zero => intro c8 mt5 hN9; exact absurd hN9 (Nat.not_lt_zero _)
                                    | succ N IH177 =>
                                      intro c8 mt5 hN9 hc8 hm5 ls H locs hl hP hD hS
                                      refine lv_iload hx hb dd_Model_determinant_177 (lv_at hl 5 rfl) ?_
                                      refine lv_aload_n hx hb dd_Model_determinant_179 rfl (lv_at hl 0 rfl) ?_
                                      refine va_get (D := D) (ci := 7) (v := .int (nI rs)) (C := RR_Model) (T := FF_Model) (N := 30) hx hb htb hi_Model hown hK hP 0 rfl rfl 17 (by decide) hf_111 (fun _ h9 => h9) rfl dd_Model_determinant_180 ?_
                                      refine lv_icmp_ge (tgt := 257) hx hb dd_Model_determinant_183 (by decide) (fun h183 => ?_) (fun h183 => ?_)
                                      · skip
                                        have h183 : rs ≤ c8 := (nI_leI (a := rs) (b := c8) (by omega) (by omega)).mp h183
                                        refine lv_iinc (k := 4) (v := nI (r9 + 1)) (lv' := [(7, .int (nI (r9 + 1))), (0, .ref o), (1, .long (ds_f p9 kk sg)), (3, .long bf), (5, .int (nI kk)), (8, .int (nI c8))]) hx hb dd_Model_determinant_257 hl rfl (nI_1 _) (by decide) rfl (fun ls hl => ?_)
                                        refine lv_goto (tgt := 162) hx hb dd_Model_determinant_260 (by decide) ?_
                                        exact IH162 (r9 + 1) mt5 (by omega) (by omega) (el_r (by omega) hm5) ls H locs (lv_sub hl [1, 2, 3, 4, 0] rfl) hP hD hS
                                      · skip
                                        have h183 : ¬ (rs ≤ c8) := fun q9 => h183 ((nI_leI (a := rs) (b := c8) (by omega) (by omega)).mpr q9)
                                        refine lv_aload_n hx hb dd_Model_determinant_186 rfl (lv_at hl 0 rfl) ?_
                                        refine va_get (D := D) (ci := 7) (v := .ref mx) (C := RR_Model) (T := FF_Model) (N := 30) hx hb htb hi_Model hown hK hP 0 rfl rfl 20 (by decide) hf_46 (fun _ h9 => h9) rfl dd_Model_determinant_187 ?_
                                        refine lv_iconst (v := 4) hx hb dd_Model_determinant_190 (by decide) ?_
                                        refine lv_iload hx hb dd_Model_determinant_191 (lv_at hl 4 rfl) ?_
                                        refine lv_imul hx hb dd_Model_determinant_193 ?_
                                        refine mm_topi (y := nI (4 * r9)) (pk_mul 4 r9) ?_
                                        refine lv_iload hx hb dd_Model_determinant_194 (lv_at hl 5 rfl) ?_
                                        refine lv_iadd hx hb dd_Model_determinant_196 ?_
                                        refine mm_topi (y := nI ((4 * r9) + c8)) (nI_add (4 * r9) c8) ?_
                                        refine lv_aload_n hx hb dd_Model_determinant_197 rfl (lv_at hl 0 rfl) ?_
                                        refine va_get (D := D) (ci := 7) (v := .ref mx) (C := RR_Model) (T := FF_Model) (N := 30) hx hb htb hi_Model hown hK hP 0 rfl rfl 20 (by decide) hf_46 (fun _ h9 => h9) rfl dd_Model_determinant_198 ?_
                                        refine lv_iconst (v := 4) hx hb dd_Model_determinant_201 (by decide) ?_
                                        refine lv_iload hx hb dd_Model_determinant_202 (lv_at hl 4 rfl) ?_
                                        refine lv_imul hx hb dd_Model_determinant_204 ?_
                                        refine mm_topi (y := nI (4 * r9)) (pk_mul 4 r9) ?_
                                        refine lv_iload hx hb dd_Model_determinant_205 (lv_at hl 5 rfl) ?_
                                        refine lv_iadd hx hb dd_Model_determinant_207 ?_
                                        refine mm_topi (y := nI ((4 * r9) + c8)) (nI_add (4 * r9) c8) ?_
                                        refine mm_lald hx hb hK hP 1 2 rfl rfl ((4 * r9) + c8) (rfl) (by omega) (by first | decide | omega) dd_Model_determinant_208 ?_
                                        refine lv_aload_n hx hb dd_Model_determinant_209 rfl (lv_at hl 0 rfl) ?_
                                        refine va_get (D := D) (ci := 7) (v := .ref mx) (C := RR_Model) (T := FF_Model) (N := 30) hx hb htb hi_Model hown hK hP 0 rfl rfl 20 (by decide) hf_46 (fun _ h9 => h9) rfl dd_Model_determinant_210 ?_
                                        refine lv_iconst (v := 4) hx hb dd_Model_determinant_213 (by decide) ?_
                                        refine lv_iload hx hb dd_Model_determinant_214 (lv_at hl 3 rfl) ?_
                                        refine lv_imul hx hb dd_Model_determinant_216 ?_
                                        refine mm_topi (y := nI (4 * kk)) (pk_mul 4 kk) ?_
                                        refine lv_iload hx hb dd_Model_determinant_217 (lv_at hl 3 rfl) ?_
                                        refine lv_iadd hx hb dd_Model_determinant_219 ?_
                                        refine mm_topi (y := nI ((4 * kk) + kk)) (nI_add (4 * kk) kk) ?_
                                        refine mm_lald hx hb hK hP 1 2 rfl rfl ((4 * kk) + kk) (rfl) (by omega) (by first | decide | omega) dd_Model_determinant_220 ?_
                                        refine lv_lmul hx hb dd_Model_determinant_221 ?_
                                        refine lv_aload_n hx hb dd_Model_determinant_222 rfl (lv_at hl 0 rfl) ?_
                                        refine va_get (D := D) (ci := 7) (v := .ref mx) (C := RR_Model) (T := FF_Model) (N := 30) hx hb htb hi_Model hown hK hP 0 rfl rfl 20 (by decide) hf_46 (fun _ h9 => h9) rfl dd_Model_determinant_223 ?_
                                        refine lv_iconst (v := 4) hx hb dd_Model_determinant_226 (by decide) ?_
                                        refine lv_iload hx hb dd_Model_determinant_227 (lv_at hl 4 rfl) ?_
                                        refine lv_imul hx hb dd_Model_determinant_229 ?_
                                        refine mm_topi (y := nI (4 * r9)) (pk_mul 4 r9) ?_
                                        refine lv_iload hx hb dd_Model_determinant_230 (lv_at hl 3 rfl) ?_
                                        refine lv_iadd hx hb dd_Model_determinant_232 ?_
                                        refine mm_topi (y := nI ((4 * r9) + kk)) (nI_add (4 * r9) kk) ?_
                                        refine mm_lald hx hb hK hP 1 2 rfl rfl ((4 * r9) + kk) (rfl) (by omega) (by first | decide | omega) dd_Model_determinant_233 ?_
                                        refine lv_aload_n hx hb dd_Model_determinant_234 rfl (lv_at hl 0 rfl) ?_
                                        refine va_get (D := D) (ci := 7) (v := .ref mx) (C := RR_Model) (T := FF_Model) (N := 30) hx hb htb hi_Model hown hK hP 0 rfl rfl 20 (by decide) hf_46 (fun _ h9 => h9) rfl dd_Model_determinant_235 ?_
                                        refine lv_iconst (v := 4) hx hb dd_Model_determinant_238 (by decide) ?_
                                        refine lv_iload hx hb dd_Model_determinant_239 (lv_at hl 3 rfl) ?_
                                        refine lv_imul hx hb dd_Model_determinant_241 ?_
                                        refine mm_topi (y := nI (4 * kk)) (pk_mul 4 kk) ?_
                                        refine lv_iload hx hb dd_Model_determinant_242 (lv_at hl 5 rfl) ?_
                                        refine lv_iadd hx hb dd_Model_determinant_244 ?_
                                        refine mm_topi (y := nI ((4 * kk) + c8)) (nI_add (4 * kk) c8) ?_
                                        refine mm_lald hx hb hK hP 1 2 rfl rfl ((4 * kk) + c8) (rfl) (by omega) (by first | decide | omega) dd_Model_determinant_245 ?_
                                        refine lv_lmul hx hb dd_Model_determinant_246 ?_
                                        refine lv_lsub hx hb dd_Model_determinant_247 ?_
                                        refine lv_lload_n hx hb dd_Model_determinant_248 rfl (lv_at hl 2 rfl) ?_
                                        refine lv_ldiv hx hb dd_Model_determinant_249 (hbf) ?_
                                        refine mm_last hx hb hK hP hD hS 1 2 rfl rfl ((4 * r9) + c8) (rfl) (by omega) (by first | decide | omega) dd_Model_determinant_250 (fun H locs hP hD hS => ?_)
                                        have hP : va_P D kc_all [(o, .inr (7, [.int thr, .int (nI n), .ref ml, .ref mm, .ref mw, .ref mc, .int (nI k), .ref mg, .ref md, .int so, .int fo, .ref mb, .long bb, .long bc, .ref mt, .long be, .ref mr, .int (nI rs), .ref mo, .int (nI rc), .ref mx, .ref mp, .ref nk, .ref na, .ref nv, .ref nf, .ref ns, .ref ne, .ref nw, .ref mf])), (mx, .inl (cL, 16, .inr (.inl (vp_updL mt5 ((4 * r9) + c8) ((((mt5 ((4 * r9) + c8)) * (mt5 ((4 * kk) + kk))) - ((mt5 ((4 * r9) + kk)) * (mt5 ((4 * kk) + c8)))) / bf)))))] H := hP
                                        have hD : va_D A [(o, .inr (7, [.int thr, .int (nI n), .ref ml, .ref mm, .ref mw, .ref mc, .int (nI k), .ref mg, .ref md, .int so, .int fo, .ref mb, .long bb, .long bc, .ref mt, .long be, .ref mr, .int (nI rs), .ref mo, .int (nI rc), .ref mx, .ref mp, .ref nk, .ref na, .ref nv, .ref nf, .ref ns, .ref ne, .ref nw, .ref mf])), (mx, .inl (cL, 16, .inr (.inl (vp_updL mt5 ((4 * r9) + c8) ((((mt5 ((4 * r9) + c8)) * (mt5 ((4 * kk) + kk))) - ((mt5 ((4 * r9) + kk)) * (mt5 ((4 * kk) + c8)))) / bf)))))] := hD
                                        refine lv_iinc (k := 5) (v := nI (c8 + 1)) (lv' := [(8, .int (nI (c8 + 1))), (0, .ref o), (1, .long (ds_f p9 kk sg)), (3, .long bf), (5, .int (nI kk)), (7, .int (nI r9))]) hx hb dd_Model_determinant_251 hl rfl (nI_1 _) (by decide) rfl (fun ls hl => ?_)
                                        refine lv_goto (tgt := 177) hx hb dd_Model_determinant_254 (by decide) ?_
                                        exact IH177 (c8 + 1) (vp_updL mt5 ((4 * r9) + c8) ((((mt5 ((4 * r9) + c8)) * (mt5 ((4 * kk) + kk))) - ((mt5 ((4 * r9) + kk)) * (mt5 ((4 * kk) + c8)))) / bf)) (by omega) (by omega) (el_s (by omega) (by omega) (by omega) hm5) ls H locs (lv_sub hl [1, 2, 3, 4, 5, 0] rfl) hP hD hS
                                  exact J177 _ (kk + 1) mt4 (Nat.lt_succ_self _) (by omega) (hm4) ls H locs (lv_sub hl [1, 2, 3, 4, 5, 0] rfl) hP hD hS
                            exact J162 _ (kk + 1) mt3 (Nat.lt_succ_self _) (by omega) (el_0) ls H locs (lv_sub hl [1, 2, 3, 4, 0] rfl) hP hD hS
                          refine lv_iload hx hb dd_Model_determinant_142 (lv_at hl 4 rfl) ?_
                          refine lv_iload hx hb dd_Model_determinant_144 (lv_at hl 3 rfl) ?_
                          refine lv_icmp_eq (tgt := 154) hx hb dd_Model_determinant_146 (by decide) (fun h146 => ?_) (fun h146 => ?_)
                          · skip
                            have h146 : p9 = kk := (nI_eq (a := p9) (b := kk) (by omega) (by omega)).mp h146
                            refine lv_lload_n hx hb dd_Model_determinant_154 rfl (lv_at hl 1 rfl) ?_
                            refine mm_topl (y := ds_f p9 kk sg) (by first | exact (if_pos h146).symm | exact (if_neg h146).symm) ?_
                            refine lv_lstore_n (lv' := [(1, .long (ds_f p9 kk sg)), (0, .ref o), (3, .long bf), (5, .int (nI kk)), (6, .int (nI p9))]) hx hb dd_Model_determinant_155 rfl hl (by decide) rfl (fun ls hl => ?_)
                            exact J156   ls H locs (lv_sub hl [1, 0, 2, 3, 4] rfl) hP hD hS
                          · skip
                            have h146 : ¬ (p9 = kk) := fun q9 => h146 ((nI_eq (a := p9) (b := kk) (by omega) (by omega)).mpr q9)
                            refine lv_lload_n hx hb dd_Model_determinant_149 rfl (lv_at hl 1 rfl) ?_
                            refine lv_lneg hx hb dd_Model_determinant_150 ?_
                            refine lv_goto (tgt := 155) hx hb dd_Model_determinant_151 (by decide) ?_
                            refine mm_topl (y := ds_f p9 kk sg) (by first | exact (if_pos h146).symm | exact (if_neg h146).symm) ?_
                            refine lv_lstore_n (lv' := [(1, .long (ds_f p9 kk sg)), (0, .ref o), (3, .long bf), (5, .int (nI kk)), (6, .int (nI p9))]) hx hb dd_Model_determinant_155 rfl hl (by decide) rfl (fun ls hl => ?_)
                            exact J156   ls H locs (lv_sub hl [1, 0, 2, 3, 4] rfl) hP hD hS
                        exact J142 mt2 (by first | exact sq_id h81 hm2 | (rw [show rs = c9 by omega]; exact hm2)) ls H locs (lv_sub hl [0, 1, 2, 3, 4] rfl) hP hD hS
                      · skip
                        have h81 : ¬ (p9 = kk) := fun q9 => h81 ((nI_eq (a := p9) (b := kk) (by omega) (by omega)).mpr q9)
                        refine lv_aload_n hx hb dd_Model_determinant_84 rfl (lv_at hl 0 rfl) ?_
                        refine va_get (D := D) (ci := 7) (v := .ref mx) (C := RR_Model) (T := FF_Model) (N := 30) hx hb htb hi_Model hown hK hP 0 rfl rfl 20 (by decide) hf_46 (fun _ h9 => h9) rfl dd_Model_determinant_85 ?_
                        refine lv_iconst (v := 4) hx hb dd_Model_determinant_88 (by decide) ?_
                        refine lv_iload hx hb dd_Model_determinant_89 (lv_at hl 4 rfl) ?_
                        refine lv_imul hx hb dd_Model_determinant_91 ?_
                        refine mm_topi (y := nI (4 * p9)) (pk_mul 4 p9) ?_
                        refine lv_iload hx hb dd_Model_determinant_92 (lv_at hl 5 rfl) ?_
                        refine lv_iadd hx hb dd_Model_determinant_94 ?_
                        refine mm_topi (y := nI ((4 * p9) + c9)) (nI_add (4 * p9) c9) ?_
                        refine mm_lald hx hb hK hP 1 2 rfl rfl ((4 * p9) + c9) (rfl) (by omega) (by first | decide | omega) dd_Model_determinant_95 ?_
                        refine lv_lstore (lv' := [(8, .long (mt2 ((4 * p9) + c9))), (0, .ref o), (1, .long sg), (3, .long bf), (5, .int (nI kk)), (6, .int (nI p9)), (7, .int (nI c9))]) hx hb dd_Model_determinant_96 hl (by decide) rfl (fun ls hl => ?_)
                        refine lv_aload_n hx hb dd_Model_determinant_98 rfl (lv_at hl 1 rfl) ?_
                        refine va_get (D := D) (ci := 7) (v := .ref mx) (C := RR_Model) (T := FF_Model) (N := 30) hx hb htb hi_Model hown hK hP 0 rfl rfl 20 (by decide) hf_46 (fun _ h9 => h9) rfl dd_Model_determinant_99 ?_
                        refine lv_iconst (v := 4) hx hb dd_Model_determinant_102 (by decide) ?_
                        refine lv_iload hx hb dd_Model_determinant_103 (lv_at hl 5 rfl) ?_
                        refine lv_imul hx hb dd_Model_determinant_105 ?_
                        refine mm_topi (y := nI (4 * p9)) (pk_mul 4 p9) ?_
                        refine lv_iload hx hb dd_Model_determinant_106 (lv_at hl 6 rfl) ?_
                        refine lv_iadd hx hb dd_Model_determinant_108 ?_
                        refine mm_topi (y := nI ((4 * p9) + c9)) (nI_add (4 * p9) c9) ?_
                        refine lv_aload_n hx hb dd_Model_determinant_109 rfl (lv_at hl 1 rfl) ?_
                        refine va_get (D := D) (ci := 7) (v := .ref mx) (C := RR_Model) (T := FF_Model) (N := 30) hx hb htb hi_Model hown hK hP 0 rfl rfl 20 (by decide) hf_46 (fun _ h9 => h9) rfl dd_Model_determinant_110 ?_
                        refine lv_iconst (v := 4) hx hb dd_Model_determinant_113 (by decide) ?_
                        refine lv_iload hx hb dd_Model_determinant_114 (lv_at hl 4 rfl) ?_
                        refine lv_imul hx hb dd_Model_determinant_116 ?_
                        refine mm_topi (y := nI (4 * kk)) (pk_mul 4 kk) ?_
                        refine lv_iload hx hb dd_Model_determinant_117 (lv_at hl 6 rfl) ?_
                        refine lv_iadd hx hb dd_Model_determinant_119 ?_
                        refine mm_topi (y := nI ((4 * kk) + c9)) (nI_add (4 * kk) c9) ?_
                        refine mm_lald hx hb hK hP 1 2 rfl rfl ((4 * kk) + c9) (rfl) (by omega) (by first | decide | omega) dd_Model_determinant_120 ?_
                        refine mm_last hx hb hK hP hD hS 1 2 rfl rfl ((4 * p9) + c9) (rfl) (by omega) (by first | decide | omega) dd_Model_determinant_121 (fun H locs hP hD hS => ?_)
                        have hP : va_P D kc_all [(o, .inr (7, [.int thr, .int (nI n), .ref ml, .ref mm, .ref mw, .ref mc, .int (nI k), .ref mg, .ref md, .int so, .int fo, .ref mb, .long bb, .long bc, .ref mt, .long be, .ref mr, .int (nI rs), .ref mo, .int (nI rc), .ref mx, .ref mp, .ref nk, .ref na, .ref nv, .ref nf, .ref ns, .ref ne, .ref nw, .ref mf])), (mx, .inl (cL, 16, .inr (.inl (vp_updL mt2 ((4 * p9) + c9) (mt2 ((4 * kk) + c9))))))] H := hP
                        have hD : va_D A [(o, .inr (7, [.int thr, .int (nI n), .ref ml, .ref mm, .ref mw, .ref mc, .int (nI k), .ref mg, .ref md, .int so, .int fo, .ref mb, .long bb, .long bc, .ref mt, .long be, .ref mr, .int (nI rs), .ref mo, .int (nI rc), .ref mx, .ref mp, .ref nk, .ref na, .ref nv, .ref nf, .ref ns, .ref ne, .ref nw, .ref mf])), (mx, .inl (cL, 16, .inr (.inl (vp_updL mt2 ((4 * p9) + c9) (mt2 ((4 * kk) + c9))))))] := hD
                        refine lv_aload_n hx hb dd_Model_determinant_122 rfl (lv_at hl 1 rfl) ?_
                        refine va_get (D := D) (ci := 7) (v := .ref mx) (C := RR_Model) (T := FF_Model) (N := 30) hx hb htb hi_Model hown hK hP 0 rfl rfl 20 (by decide) hf_46 (fun _ h9 => h9) rfl dd_Model_determinant_123 ?_
                        refine lv_iconst (v := 4) hx hb dd_Model_determinant_126 (by decide) ?_
                        refine lv_iload hx hb dd_Model_determinant_127 (lv_at hl 4 rfl) ?_
                        refine lv_imul hx hb dd_Model_determinant_129 ?_
                        refine mm_topi (y := nI (4 * kk)) (pk_mul 4 kk) ?_
                        refine lv_iload hx hb dd_Model_determinant_130 (lv_at hl 6 rfl) ?_
                        refine lv_iadd hx hb dd_Model_determinant_132 ?_
                        refine mm_topi (y := nI ((4 * kk) + c9)) (nI_add (4 * kk) c9) ?_
                        refine lv_lload hx hb dd_Model_determinant_133 (lv_at hl 0 rfl) ?_
                        refine mm_topl (y := mt2 (4 * p9 + c9)) (rfl) ?_
                        refine mm_last hx hb hK hP hD hS 1 2 rfl rfl ((4 * kk) + c9) (rfl) (by omega) (by first | decide | omega) dd_Model_determinant_135 (fun H locs hP hD hS => ?_)
                        have hP : va_P D kc_all [(o, .inr (7, [.int thr, .int (nI n), .ref ml, .ref mm, .ref mw, .ref mc, .int (nI k), .ref mg, .ref md, .int so, .int fo, .ref mb, .long bb, .long bc, .ref mt, .long be, .ref mr, .int (nI rs), .ref mo, .int (nI rc), .ref mx, .ref mp, .ref nk, .ref na, .ref nv, .ref nf, .ref ns, .ref ne, .ref nw, .ref mf])), (mx, .inl (cL, 16, .inr (.inl (vp_updL (vp_updL mt2 ((4 * p9) + c9) (mt2 ((4 * kk) + c9))) ((4 * kk) + c9) (mt2 (4 * p9 + c9))))))] H := hP
                        have hD : va_D A [(o, .inr (7, [.int thr, .int (nI n), .ref ml, .ref mm, .ref mw, .ref mc, .int (nI k), .ref mg, .ref md, .int so, .int fo, .ref mb, .long bb, .long bc, .ref mt, .long be, .ref mr, .int (nI rs), .ref mo, .int (nI rc), .ref mx, .ref mp, .ref nk, .ref na, .ref nv, .ref nf, .ref ns, .ref ne, .ref nw, .ref mf])), (mx, .inl (cL, 16, .inr (.inl (vp_updL (vp_updL mt2 ((4 * p9) + c9) (mt2 ((4 * kk) + c9))) ((4 * kk) + c9) (mt2 (4 * p9 + c9))))))] := hD
                        refine lv_iinc (k := 6) (v := nI (c9 + 1)) (lv' := [(7, .int (nI (c9 + 1))), (8, .long (mt2 ((4 * p9) + c9))), (0, .ref o), (1, .long sg), (3, .long bf), (5, .int (nI kk)), (6, .int (nI p9))]) hx hb dd_Model_determinant_136 hl rfl (nI_1 _) (by decide) rfl (fun ls hl => ?_)
                        refine lv_goto (tgt := 68) hx hb dd_Model_determinant_139 (by decide) ?_
                        exact IH68 (c9 + 1) (vp_updL (vp_updL mt2 ((4 * p9) + c9) (mt2 ((4 * kk) + c9))) ((4 * kk) + c9) (mt2 (4 * p9 + c9))) (by omega) (by omega) (sq_s h81 (by omega) hm2) ls H locs (lv_sub hl [2, 3, 4, 5, 6, 0] rfl) hP hD hS
                exact J68 _ 0 mt9 (Nat.lt_succ_self _) (by omega) (sq_0) ls H locs (lv_sub hl [1, 2, 3, 4, 5, 0] rfl) hP hD hS
              refine lv_iload hx hb dd_Model_determinant_54 (lv_at hl 4 rfl) ?_
              refine lv_aload_n hx hb dd_Model_determinant_56 rfl (lv_at hl 0 rfl) ?_
              refine va_get (D := D) (ci := 7) (v := .int (nI rs)) (C := RR_Model) (T := FF_Model) (N := 30) hx hb htb hi_Model hown hK hP 0 rfl rfl 17 (by decide) hf_111 (fun _ h9 => h9) rfl dd_Model_determinant_57 ?_
              refine lv_icmp_ne (tgt := 65) hx hb dd_Model_determinant_60 (by decide) (fun h60 => ?_) (fun h60 => ?_)
              · skip
                have h60 : ¬ (p9 = rs) := fun q9 => h60 ((nI_eq (a := p9) (b := rs) (by omega) (by omega)).mpr q9)
                exact J65  (by first | exact ⟨by omega, h45⟩ | exact (show False by omega).elim) ls H locs (lv_sub hl [0, 1, 2, 3, 4] rfl) hP hD hS
              · skip
                have h60 : p9 = rs := (nI_eq (a := p9) (b := rs) (by omega) (by omega)).mp h60
                refine lv_lconst (v := 0) hx hb dd_Model_determinant_63 (by decide) ?_
                exact W.lret (v := (0 : Int64)) hx hb hr (fun t ht hW => ⟨⟨(0 : Int64), mt9, rfl, dt_z (by omega) hv (hpv.trans (by rw [show rs - p9 = 0 by omega]; rfl)), by rw [ht]; exact hP, va_K.moved hW.alike hK, hD⟩, hS.F ht⟩) hS.2.2 dd_Model_determinant_64
            · skip
              have h28 : ¬ (rs ≤ p9) := fun q9 => h28 ((nI_leI (a := rs) (b := p9) (by omega) (by omega)).mpr q9)
              refine lv_aload_n hx hb dd_Model_determinant_31 rfl (lv_at hl 0 rfl) ?_
              refine va_get (D := D) (ci := 7) (v := .ref mx) (C := RR_Model) (T := FF_Model) (N := 30) hx hb htb hi_Model hown hK hP 0 rfl rfl 20 (by decide) hf_46 (fun _ h9 => h9) rfl dd_Model_determinant_32 ?_
              refine lv_iconst (v := 4) hx hb dd_Model_determinant_35 (by decide) ?_
              refine lv_iload hx hb dd_Model_determinant_36 (lv_at hl 4 rfl) ?_
              refine lv_imul hx hb dd_Model_determinant_38 ?_
              refine mm_topi (y := nI (4 * p9)) (pk_mul 4 p9) ?_
              refine lv_iload hx hb dd_Model_determinant_39 (lv_at hl 3 rfl) ?_
              refine lv_iadd hx hb dd_Model_determinant_41 ?_
              refine mm_topi (y := nI ((4 * p9) + kk)) (nI_add (4 * p9) kk) ?_
              refine mm_lald hx hb hK hP 1 2 rfl rfl ((4 * p9) + kk) (rfl) (by omega) (by first | decide | omega) dd_Model_determinant_42 ?_
              refine lv_lconst (v := 0) hx hb dd_Model_determinant_43 (by decide) ?_
              refine W.lcmp hx hb dd_Model_determinant_44 ?_
              refine lv_if_ne (tgt := 54) hx hb dd_Model_determinant_45 (by decide) (fun h45 => ?_) (fun h45 => ?_)
              · skip
                rw [lg_cmp_eq (mt9 ((4 * p9) + kk)) (0 : Int64)] at h45
                have J65 : ∀  (hq : p9 < rs ∧ ¬ mt9 (4 * p9 + kk) = 0), ∀ (ls : Array Slot) (H : Heap) (locs : List Loc), lv_has ls 10 [(0, .ref o), (1, .long sg), (3, .long bf), (5, .int (nI kk)), (6, .int (nI p9))] → va_P D kc_all [(o, .inr (7, [.int thr, .int (nI n), .ref ml, .ref mm, .ref mw, .ref mc, .int (nI k), .ref mg, .ref md, .int so, .int fo, .ref mb, .long bb, .long bc, .ref mt, .long be, .ref mr, .int (nI rs), .ref mo, .int (nI rc), .ref mx, .ref mp, .ref nk, .ref na, .ref nv, .ref nf, .ref ns, .ref ne, .ref nw, .ref mf])), (mx, .inl (cL, 16, .inr (.inl mt9)))] H → va_D A [(o, .inr (7, [.int thr, .int (nI n), .ref ml, .ref mm, .ref mw, .ref mc, .int (nI k), .ref mg, .ref md, .int so, .int fo, .ref mb, .long bb, .long bc, .ref mt, .long be, .ref mr, .int (nI rs), .ref mo, .int (nI rc), .ref mx, .ref mp, .ref nk, .ref na, .ref nv, .ref nf, .ref ns, .ref ne, .ref nw, .ref mf])), (mx, .inl (cL, 16, .inr (.inl mt9)))] → va_S A s.heap H locs → W p l e (headSpec ww_Model_determinant ({ frames := 0, cells := 0, slots := 0, locals := 0 } : Room)).room s m ([.ref o]).toArray below meth c H locs 0 0 (MQ below (qq_Model_determinant D cI cZ cL cQ o ml mm mw mc mg md mb mt mr mo mx mp nk na nv nf ns ne nw mf thr n k so fo bb bc be rs rc m0 A) ([.ref o]).toArray s 0 0 A) (F0 m 65 ls []) := by
                  intro  hq ls H locs hl hP hD hS
                  have hpp : pv_f mt9 kk rs (rs - kk) = p9 := hpv.trans (pv_n hq.1 hq.2)
                  refine lv_iconst (v := 0) hx hb dd_Model_determinant_65 (by decide) ?_
                  refine lv_istore (lv' := [(7, .int (0 : Int32)), (0, .ref o), (1, .long sg), (3, .long bf), (5, .int (nI kk)), (6, .int (nI p9))]) hx hb dd_Model_determinant_66 hl (by decide) rfl (fun ls hl => ?_)
                  have J68 : ∀ (N : Nat) (c9 : Nat) (mt2 : Nat → Int64), (rs - c9) < N → ∀ (hc9 : c9 ≤ rs) (hm2 : mt2 = sq_f mt9 p9 kk c9), ∀ (ls : Array Slot) (H : Heap) (locs : List Loc), lv_has ls 10 [(0, .ref o), (1, .long sg), (3, .long bf), (5, .int (nI kk)), (6, .int (nI p9)), (7, .int (nI c9))] → va_P D kc_all [(o, .inr (7, [.int thr, .int (nI n), .ref ml, .ref mm, .ref mw, .ref mc, .int (nI k), .ref mg, .ref md, .int so, .int fo, .ref mb, .long bb, .long bc, .ref mt, .long be, .ref mr, .int (nI rs), .ref mo, .int (nI rc), .ref mx, .ref mp, .ref nk, .ref na, .ref nv, .ref nf, .ref ns, .ref ne, .ref nw, .ref mf])), (mx, .inl (cL, 16, .inr (.inl mt2)))] H → va_D A [(o, .inr (7, [.int thr, .int (nI n), .ref ml, .ref mm, .ref mw, .ref mc, .int (nI k), .ref mg, .ref md, .int so, .int fo, .ref mb, .long bb, .long bc, .ref mt, .long be, .ref mr, .int (nI rs), .ref mo, .int (nI rc), .ref mx, .ref mp, .ref nk, .ref na, .ref nv, .ref nf, .ref ns, .ref ne, .ref nw, .ref mf])), (mx, .inl (cL, 16, .inr (.inl mt2)))] → va_S A s.heap H locs → W p l e (headSpec ww_Model_determinant ({ frames := 0, cells := 0, slots := 0, locals := 0 } : Room)).room s m ([.ref o]).toArray below meth c H locs 0 0 (MQ below (qq_Model_determinant D cI cZ cL cQ o ml mm mw mc mg md mb mt mr mo mx mp nk na nv nf ns ne nw mf thr n k so fo bb bc be rs rc m0 A) ([.ref o]).toArray s 0 0 A) (F0 m 68 ls []) := by
                    intro N
                    induction N with
                    | zero => intro c9 mt2 hN9; exact absurd hN9 (Nat.not_lt_zero _)
                    | succ N IH68 =>
                      intro c9 mt2 hN9 hc9 hm2 ls H locs hl hP hD hS
                      refine lv_iload hx hb dd_Model_determinant_68 (lv_at hl 5 rfl) ?_
                      refine lv_aload_n hx hb dd_Model_determinant_70 rfl (lv_at hl 0 rfl) ?_
                      refine va_get (D := D) (ci := 7) (v := .int (nI rs)) (C := RR_Model) (T := FF_Model) (N := 30) hx hb htb hi_Model hown hK hP 0 rfl rfl 17 (by decide) hf_111 (fun _ h9 => h9) rfl dd_Model_determinant_71 ?_
                      refine lv_icmp_ge (tgt := 142) hx hb dd_Model_determinant_74 (by decide) (fun h74 => ?_) (fun h74 => ?_)
                      · skip
                        have h74 : rs ≤ c9 := (nI_leI (a := rs) (b := c9) (by omega) (by omega)).mp h74
                        have J142 : ∀ (mt3 : Nat → Int64) (hm3 : mt3 = sq_f mt9 p9 kk rs), ∀ (ls : Array Slot) (H : Heap) (locs : List Loc), lv_has ls 10 [(0, .ref o), (1, .long sg), (3, .long bf), (5, .int (nI kk)), (6, .int (nI p9))] → va_P D kc_all [(o, .inr (7, [.int thr, .int (nI n), .ref ml, .ref mm, .ref mw, .ref mc, .int (nI k), .ref mg, .ref md, .int so, .int fo, .ref mb, .long bb, .long bc, .ref mt, .long be, .ref mr, .int (nI rs), .ref mo, .int (nI rc), .ref mx, .ref mp, .ref nk, .ref na, .ref nv, .ref nf, .ref ns, .ref ne, .ref nw, .ref mf])), (mx, .inl (cL, 16, .inr (.inl mt3)))] H → va_D A [(o, .inr (7, [.int thr, .int (nI n), .ref ml, .ref mm, .ref mw, .ref mc, .int (nI k), .ref mg, .ref md, .int so, .int fo, .ref mb, .long bb, .long bc, .ref mt, .long be, .ref mr, .int (nI rs), .ref mo, .int (nI rc), .ref mx, .ref mp, .ref nk, .ref na, .ref nv, .ref nf, .ref ns, .ref ne, .ref nw, .ref mf])), (mx, .inl (cL, 16, .inr (.inl mt3)))] → va_S A s.heap H locs → W p l e (headSpec ww_Model_determinant ({ frames := 0, cells := 0, slots := 0, locals := 0 } : Room)).room s m ([.ref o]).toArray below meth c H locs 0 0 (MQ below (qq_Model_determinant D cI cZ cL cQ o ml mm mw mc mg md mb mt mr mo mx mp nk na nv nf ns ne nw mf thr n k so fo bb bc be rs rc m0 A) ([.ref o]).toArray s 0 0 A) (F0 m 142 ls []) := by
                          intro mt3 hm3 ls H locs hl hP hD hS
                          have J156 : ∀ (ls : Array Slot) (H : Heap) (locs : List Loc), lv_has ls 10 [(0, .ref o), (1, .long (ds_f p9 kk sg)), (3, .long bf), (5, .int (nI kk)), (6, .int (nI p9))] → va_P D kc_all [(o, .inr (7, [.int thr, .int (nI n), .ref ml, .ref mm, .ref mw, .ref mc, .int (nI k), .ref mg, .ref md, .int so, .int fo, .ref mb, .long bb, .long bc, .ref mt, .long be, .ref mr, .int (nI rs), .ref mo, .int (nI rc), .ref mx, .ref mp, .ref nk, .ref na, .ref nv, .ref nf, .ref ns, .ref ne, .ref nw, .ref mf])), (mx, .inl (cL, 16, .inr (.inl mt3)))] H → va_D A [(o, .inr (7, [.int thr, .int (nI n), .ref ml, .ref mm, .ref mw, .ref mc, .int (nI k), .ref mg, .ref md, .int so, .int fo, .ref mb, .long bb, .long bc, .ref mt, .long be, .ref mr, .int (nI rs), .ref mo, .int (nI rc), .ref mx, .ref mp, .ref nk, .ref na, .ref nv, .ref nf, .ref ns, .ref ne, .ref nw, .ref mf])), (mx, .inl (cL, 16, .inr (.inl mt3)))] → va_S A s.heap H locs → W p l e (headSpec ww_Model_determinant ({ frames := 0, cells := 0, slots := 0, locals := 0 } : Room)).room s m ([.ref o]).toArray below meth c H locs 0 0 (MQ below (qq_Model_determinant D cI cZ cL cQ o ml mm mw mc mg md mb mt mr mo mx mp nk na nv nf ns ne nw mf thr n k so fo bb bc be rs rc m0 A) ([.ref o]).toArray s 0 0 A) (F0 m 156 ls []) := by
                            intro   ls H locs hl hP hD hS
                            refine lv_iload hx hb dd_Model_determinant_156 (lv_at hl 3 rfl) ?_
                            refine lv_iconst (v := 1) hx hb dd_Model_determinant_158 (by decide) ?_
                            refine lv_iadd hx hb dd_Model_determinant_159 ?_
                            refine mm_topi (y := nI (kk + 1)) (nI_add kk 1) ?_
                            refine lv_istore (lv' := [(7, .int (nI (kk + 1))), (0, .ref o), (1, .long (ds_f p9 kk sg)), (3, .long bf), (5, .int (nI kk)), (6, .int (nI p9))]) hx hb dd_Model_determinant_160 hl (by decide) rfl (fun ls hl => ?_)
                            have J162 : ∀ (N : Nat) (r9 : Nat) (mt4 : Nat → Int64), (rs - r9) < N → ∀ (hr9 : kk + 1 ≤ r9 ∧ r9 ≤ rs) (hm4 : mt4 = el_f mt3 kk bf rs r9 (kk + 1)), ∀ (ls : Array Slot) (H : Heap) (locs : List Loc), lv_has ls 10 [(0, .ref o), (1, .long (ds_f p9 kk sg)), (3, .long bf), (5, .int (nI kk)), (7, .int (nI r9))] → va_P D kc_all [(o, .inr (7, [.int thr, .int (nI n), .ref ml, .ref mm, .ref mw, .ref mc, .int (nI k), .ref mg, .ref md, .int so, .int fo, .ref mb, .long bb, .long bc, .ref mt, .long be, .ref mr, .int (nI rs), .ref mo, .int (nI rc), .ref mx, .ref mp, .ref nk, .ref na, .ref nv, .ref nf, .ref ns, .ref ne, .ref nw, .ref mf])), (mx, .inl (cL, 16, .inr (.inl mt4)))] H → va_D A [(o, .inr (7, [.int thr, .int (nI n), .ref ml, .ref mm, .ref mw, .ref mc, .int (nI k), .ref mg, .ref md, .int so, .int fo, .ref mb, .long bb, .long bc, .ref mt, .long be, .ref mr, .int (nI rs), .ref mo, .int (nI rc), .ref mx, .ref mp, .ref nk, .ref na, .ref nv, .ref nf, .ref ns, .ref ne, .ref nw, .ref mf])), (mx, .inl (cL, 16, .inr (.inl mt4)))] → va_S A s.heap H locs → W p l e (headSpec ww_Model_determinant ({ frames := 0, cells := 0, slots := 0, locals := 0 } : Room)).room s m ([.ref o]).toArray below meth c H locs 0 0 (MQ below (qq_Model_determinant D cI cZ cL cQ o ml mm mw mc mg md mb mt mr mo mx mp nk na nv nf ns ne nw mf thr n k so fo bb bc be rs rc m0 A) ([.ref o]).toArray s 0 0 A) (F0 m 162 ls []) := by
                              intro N
                              induction N with
                              | zero => intro r9 mt4 hN9; exact absurd hN9 (Nat.not_lt_zero _)
                              | succ N IH162 =>
                                intro r9 mt4 hN9 hr9 hm4 ls H locs hl hP hD hS
                                refine lv_iload hx hb dd_Model_determinant_162 (lv_at hl 4 rfl) ?_
                                refine lv_aload_n hx hb dd_Model_determinant_164 rfl (lv_at hl 0 rfl) ?_
                                refine va_get (D := D) (ci := 7) (v := .int (nI rs)) (C := RR_Model) (T := FF_Model) (N := 30) hx hb htb hi_Model hown hK hP 0 rfl rfl 17 (by decide) hf_111 (fun _ h9 => h9) rfl dd_Model_determinant_165 ?_
                                refine lv_icmp_ge (tgt := 263) hx hb dd_Model_determinant_168 (by decide) (fun h168 => ?_) (fun h168 => ?_)
                                · skip
                                  have h168 : rs ≤ r9 := (nI_leI (a := rs) (b := r9) (by omega) (by omega)).mp h168
                                  refine lv_aload_n hx hb dd_Model_determinant_263 rfl (lv_at hl 0 rfl) ?_
                                  refine va_get (D := D) (ci := 7) (v := .ref mx) (C := RR_Model) (T := FF_Model) (N := 30) hx hb htb hi_Model hown hK hP 0 rfl rfl 20 (by decide) hf_46 (fun _ h9 => h9) rfl dd_Model_determinant_264 ?_
                                  refine lv_iconst (v := 4) hx hb dd_Model_determinant_267 (by decide) ?_
                                  refine lv_iload hx hb dd_Model_determinant_268 (lv_at hl 3 rfl) ?_
                                  refine lv_imul hx hb dd_Model_determinant_270 ?_
                                  refine mm_topi (y := nI (4 * kk)) (pk_mul 4 kk) ?_
                                  refine lv_iload hx hb dd_Model_determinant_271 (lv_at hl 3 rfl) ?_
                                  refine lv_iadd hx hb dd_Model_determinant_273 ?_
                                  refine mm_topi (y := nI ((4 * kk) + kk)) (nI_add (4 * kk) kk) ?_
                                  refine mm_lald hx hb hK hP 1 2 rfl rfl ((4 * kk) + kk) (rfl) (by omega) (by first | decide | omega) dd_Model_determinant_274 ?_
                                  refine lv_lstore_n (lv' := [(3, .long (mt4 ((4 * kk) + kk))), (0, .ref o), (1, .long (ds_f p9 kk sg)), (5, .int (nI kk)), (7, .int (nI r9))]) hx hb dd_Model_determinant_275 rfl hl (by decide) rfl (fun ls hl => ?_)
                                  refine lv_iinc (k := 3) (v := nI (kk + 1)) (lv' := [(5, .int (nI (kk + 1))), (3, .long (mt4 ((4 * kk) + kk))), (0, .ref o), (1, .long (ds_f p9 kk sg)), (7, .int (nI r9))]) hx hb dd_Model_determinant_276 hl rfl (nI_1 _) (by decide) rfl (fun ls hl => ?_)
                                  refine lv_goto (tgt := 7) hx hb dd_Model_determinant_279 (by decide) ?_
                                  exact IH7 (kk + 1) mt4 (ds_f p9 kk sg) (mt4 ((4 * kk) + kk)) (by omega) (by omega) (by rw [el_d (by omega) hm4, hm3, sq_d (by omega) (by omega)]; exact hq.2) (dt_s (by omega) (by omega) hv hpp hq.1 hm3 (by rw [show rs = r9 by omega]; rw [show rs = r9 by omega] at hm4; exact hm4)) ls H locs (lv_sub hl [2, 3, 1, 0] rfl) hP hD hS
                                · skip
                                  have h168 : ¬ (rs ≤ r9) := fun q9 => h168 ((nI_leI (a := rs) (b := r9) (by omega) (by omega)).mpr q9)
                                  refine lv_iload hx hb dd_Model_determinant_171 (lv_at hl 3 rfl) ?_
                                  refine lv_iconst (v := 1) hx hb dd_Model_determinant_173 (by decide) ?_
                                  refine lv_iadd hx hb dd_Model_determinant_174 ?_
                                  refine mm_topi (y := nI (kk + 1)) (nI_add kk 1) ?_
                                  refine lv_istore (lv' := [(8, .int (nI (kk + 1))), (0, .ref o), (1, .long (ds_f p9 kk sg)), (3, .long bf), (5, .int (nI kk)), (7, .int (nI r9))]) hx hb dd_Model_determinant_175 hl (by decide) rfl (fun ls hl => ?_)
                                  have J177 : ∀ (N : Nat) (c8 : Nat) (mt5 : Nat → Int64), (rs - c8) < N → ∀ (hc8 : kk + 1 ≤ c8 ∧ c8 ≤ rs) (hm5 : mt5 = el_f mt3 kk bf rs r9 c8), ∀ (ls : Array Slot) (H : Heap) (locs : List Loc), lv_has ls 10 [(0, .ref o), (1, .long (ds_f p9 kk sg)), (3, .long bf), (5, .int (nI kk)), (7, .int (nI r9)), (8, .int (nI c8))] → va_P D kc_all [(o, .inr (7, [.int thr, .int (nI n), .ref ml, .ref mm, .ref mw, .ref mc, .int (nI k), .ref mg, .ref md, .int so, .int fo, .ref mb, .long bb, .long bc, .ref mt, .long be, .ref mr, .int (nI rs), .ref mo, .int (nI rc), .ref mx, .ref mp, .ref nk, .ref na, .ref nv, .ref nf, .ref ns, .ref ne, .ref nw, .ref mf])), (mx, .inl (cL, 16, .inr (.inl mt5)))] H → va_D A [(o, .inr (7, [.int thr, .int (nI n), .ref ml, .ref mm, .ref mw, .ref mc, .int (nI k), .ref mg, .ref md, .int so, .int fo, .ref mb, .long bb, .long bc, .ref mt, .long be, .ref mr, .int (nI rs), .ref mo, .int (nI rc), .ref mx, .ref mp, .ref nk, .ref na, .ref nv, .ref nf, .ref ns, .ref ne, .ref nw, .ref mf])), (mx, .inl (cL, 16, .inr (.inl mt5)))] → va_S A s.heap H locs → W p l e (headSpec ww_Model_determinant ({ frames := 0, cells := 0, slots := 0, locals := 0 } : Room)).room s m ([.ref o]).toArray below meth c H locs 0 0 (MQ below (qq_Model_determinant D cI cZ cL cQ o ml mm mw mc mg md mb mt mr mo mx mp nk na nv nf ns ne nw mf thr n k so fo bb bc be rs rc m0 A) ([.ref o]).toArray s 0 0 A) (F0 m 177 ls []) := by
                                    intro N
                                    induction N with
                                    | zero => intro c8 mt5 hN9; exact absurd hN9 (Nat.not_lt_zero _)
                                    | succ N IH177 =>
                                      intro c8 mt5 hN9 hc8 hm5 ls H locs hl hP hD hS
                                      refine lv_iload hx hb dd_Model_determinant_177 (lv_at hl 5 rfl) ?_
                                      refine lv_aload_n hx hb dd_Model_determinant_179 rfl (lv_at hl 0 rfl) ?_
                                      refine va_get (D := D) (ci := 7) (v := .int (nI rs)) (C := RR_Model) (T := FF_Model) (N := 30) hx hb htb hi_Model hown hK hP 0 rfl rfl 17 (by decide) hf_111 (fun _ h9 => h9) rfl dd_Model_determinant_180 ?_
                                      refine lv_icmp_ge (tgt := 257) hx hb dd_Model_determinant_183 (by decide) (fun h183 => ?_) (fun h183 => ?_)
                                      · skip
                                        have h183 : rs ≤ c8 := (nI_leI (a := rs) (b := c8) (by omega) (by omega)).mp h183
                                        refine lv_iinc (k := 4) (v := nI (r9 + 1)) (lv' := [(7, .int (nI (r9 + 1))), (0, .ref o), (1, .long (ds_f p9 kk sg)), (3, .long bf), (5, .int (nI kk)), (8, .int (nI c8))]) hx hb dd_Model_determinant_257 hl rfl (nI_1 _) (by decide) rfl (fun ls hl => ?_)
                                        refine lv_goto (tgt := 162) hx hb dd_Model_determinant_260 (by decide) ?_
                                        exact IH162 (r9 + 1) mt5 (by omega) (by omega) (el_r (by omega) hm5) ls H locs (lv_sub hl [1, 2, 3, 4, 0] rfl) hP hD hS
                                      · skip
                                        have h183 : ¬ (rs ≤ c8) := fun q9 => h183 ((nI_leI (a := rs) (b := c8) (by omega) (by omega)).mpr q9)
                                        refine lv_aload_n hx hb dd_Model_determinant_186 rfl (lv_at hl 0 rfl) ?_
                                        refine va_get (D := D) (ci := 7) (v := .ref mx) (C := RR_Model) (T := FF_Model) (N := 30) hx hb htb hi_Model hown hK hP 0 rfl rfl 20 (by decide) hf_46 (fun _ h9 => h9) rfl dd_Model_determinant_187 ?_
                                        refine lv_iconst (v := 4) hx hb dd_Model_determinant_190 (by decide) ?_
                                        refine lv_iload hx hb dd_Model_determinant_191 (lv_at hl 4 rfl) ?_
                                        refine lv_imul hx hb dd_Model_determinant_193 ?_
                                        refine mm_topi (y := nI (4 * r9)) (pk_mul 4 r9) ?_
                                        refine lv_iload hx hb dd_Model_determinant_194 (lv_at hl 5 rfl) ?_
                                        refine lv_iadd hx hb dd_Model_determinant_196 ?_
                                        refine mm_topi (y := nI ((4 * r9) + c8)) (nI_add (4 * r9) c8) ?_
                                        refine lv_aload_n hx hb dd_Model_determinant_197 rfl (lv_at hl 0 rfl) ?_
                                        refine va_get (D := D) (ci := 7) (v := .ref mx) (C := RR_Model) (T := FF_Model) (N := 30) hx hb htb hi_Model hown hK hP 0 rfl rfl 20 (by decide) hf_46 (fun _ h9 => h9) rfl dd_Model_determinant_198 ?_
                                        refine lv_iconst (v := 4) hx hb dd_Model_determinant_201 (by decide) ?_
                                        refine lv_iload hx hb dd_Model_determinant_202 (lv_at hl 4 rfl) ?_
                                        refine lv_imul hx hb dd_Model_determinant_204 ?_
                                        refine mm_topi (y := nI (4 * r9)) (pk_mul 4 r9) ?_
                                        refine lv_iload hx hb dd_Model_determinant_205 (lv_at hl 5 rfl) ?_
                                        refine lv_iadd hx hb dd_Model_determinant_207 ?_
                                        refine mm_topi (y := nI ((4 * r9) + c8)) (nI_add (4 * r9) c8) ?_
                                        refine mm_lald hx hb hK hP 1 2 rfl rfl ((4 * r9) + c8) (rfl) (by omega) (by first | decide | omega) dd_Model_determinant_208 ?_
                                        refine lv_aload_n hx hb dd_Model_determinant_209 rfl (lv_at hl 0 rfl) ?_
                                        refine va_get (D := D) (ci := 7) (v := .ref mx) (C := RR_Model) (T := FF_Model) (N := 30) hx hb htb hi_Model hown hK hP 0 rfl rfl 20 (by decide) hf_46 (fun _ h9 => h9) rfl dd_Model_determinant_210 ?_
                                        refine lv_iconst (v := 4) hx hb dd_Model_determinant_213 (by decide) ?_
                                        refine lv_iload hx hb dd_Model_determinant_214 (lv_at hl 3 rfl) ?_
                                        refine lv_imul hx hb dd_Model_determinant_216 ?_
                                        refine mm_topi (y := nI (4 * kk)) (pk_mul 4 kk) ?_
                                        refine lv_iload hx hb dd_Model_determinant_217 (lv_at hl 3 rfl) ?_
                                        refine lv_iadd hx hb dd_Model_determinant_219 ?_
                                        refine mm_topi (y := nI ((4 * kk) + kk)) (nI_add (4 * kk) kk) ?_
                                        refine mm_lald hx hb hK hP 1 2 rfl rfl ((4 * kk) + kk) (rfl) (by omega) (by first | decide | omega) dd_Model_determinant_220 ?_
                                        refine lv_lmul hx hb dd_Model_determinant_221 ?_
                                        refine lv_aload_n hx hb dd_Model_determinant_222 rfl (lv_at hl 0 rfl) ?_
                                        refine va_get (D := D) (ci := 7) (v := .ref mx) (C := RR_Model) (T := FF_Model) (N := 30) hx hb htb hi_Model hown hK hP 0 rfl rfl 20 (by decide) hf_46 (fun _ h9 => h9) rfl dd_Model_determinant_223 ?_
                                        refine lv_iconst (v := 4) hx hb dd_Model_determinant_226 (by decide) ?_
                                        refine lv_iload hx hb dd_Model_determinant_227 (lv_at hl 4 rfl) ?_
                                        refine lv_imul hx hb dd_Model_determinant_229 ?_
                                        refine mm_topi (y := nI (4 * r9)) (pk_mul 4 r9) ?_
                                        refine lv_iload hx hb dd_Model_determinant_230 (lv_at hl 3 rfl) ?_
                                        refine lv_iadd hx hb dd_Model_determinant_232 ?_
                                        refine mm_topi (y := nI ((4 * r9) + kk)) (nI_add (4 * r9) kk) ?_
                                        refine mm_lald hx hb hK hP 1 2 rfl rfl ((4 * r9) + kk) (rfl) (by omega) (by first | decide | omega) dd_Model_determinant_233 ?_
                                        refine lv_aload_n hx hb dd_Model_determinant_234 rfl (lv_at hl 0 rfl) ?_
                                        refine va_get (D := D) (ci := 7) (v := .ref mx) (C := RR_Model) (T := FF_Model) (N := 30) hx hb htb hi_Model hown hK hP 0 rfl rfl 20 (by decide) hf_46 (fun _ h9 => h9) rfl dd_Model_determinant_235 ?_
                                        refine lv_iconst (v := 4) hx hb dd_Model_determinant_238 (by decide) ?_
                                        refine lv_iload hx hb dd_Model_determinant_239 (lv_at hl 3 rfl) ?_
                                        refine lv_imul hx hb dd_Model_determinant_241 ?_
                                        refine mm_topi (y := nI (4 * kk)) (pk_mul 4 kk) ?_
                                        refine lv_iload hx hb dd_Model_determinant_242 (lv_at hl 5 rfl) ?_
                                        refine lv_iadd hx hb dd_Model_determinant_244 ?_
                                        refine mm_topi (y := nI ((4 * kk) + c8)) (nI_add (4 * kk) c8) ?_
                                        refine mm_lald hx hb hK hP 1 2 rfl rfl ((4 * kk) + c8) (rfl) (by omega) (by first | decide | omega) dd_Model_determinant_245 ?_
                                        refine lv_lmul hx hb dd_Model_determinant_246 ?_
                                        refine lv_lsub hx hb dd_Model_determinant_247 ?_
                                        refine lv_lload_n hx hb dd_Model_determinant_248 rfl (lv_at hl 2 rfl) ?_
                                        refine lv_ldiv hx hb dd_Model_determinant_249 (hbf) ?_
                                        refine mm_last hx hb hK hP hD hS 1 2 rfl rfl ((4 * r9) + c8) (rfl) (by omega) (by first | decide | omega) dd_Model_determinant_250 (fun H locs hP hD hS => ?_)
                                        have hP : va_P D kc_all [(o, .inr (7, [.int thr, .int (nI n), .ref ml, .ref mm, .ref mw, .ref mc, .int (nI k), .ref mg, .ref md, .int so, .int fo, .ref mb, .long bb, .long bc, .ref mt, .long be, .ref mr, .int (nI rs), .ref mo, .int (nI rc), .ref mx, .ref mp, .ref nk, .ref na, .ref nv, .ref nf, .ref ns, .ref ne, .ref nw, .ref mf])), (mx, .inl (cL, 16, .inr (.inl (vp_updL mt5 ((4 * r9) + c8) ((((mt5 ((4 * r9) + c8)) * (mt5 ((4 * kk) + kk))) - ((mt5 ((4 * r9) + kk)) * (mt5 ((4 * kk) + c8)))) / bf)))))] H := hP
                                        have hD : va_D A [(o, .inr (7, [.int thr, .int (nI n), .ref ml, .ref mm, .ref mw, .ref mc, .int (nI k), .ref mg, .ref md, .int so, .int fo, .ref mb, .long bb, .long bc, .ref mt, .long be, .ref mr, .int (nI rs), .ref mo, .int (nI rc), .ref mx, .ref mp, .ref nk, .ref na, .ref nv, .ref nf, .ref ns, .ref ne, .ref nw, .ref mf])), (mx, .inl (cL, 16, .inr (.inl (vp_updL mt5 ((4 * r9) + c8) ((((mt5 ((4 * r9) + c8)) * (mt5 ((4 * kk) + kk))) - ((mt5 ((4 * r9) + kk)) * (mt5 ((4 * kk) + c8)))) / bf)))))] := hD
                                        refine lv_iinc (k := 5) (v := nI (c8 + 1)) (lv' := [(8, .int (nI (c8 + 1))), (0, .ref o), (1, .long (ds_f p9 kk sg)), (3, .long bf), (5, .int (nI kk)), (7, .int (nI r9))]) hx hb dd_Model_determinant_251 hl rfl (nI_1 _) (by decide) rfl (fun ls hl => ?_)
                                        refine lv_goto (tgt := 177) hx hb dd_Model_determinant_254 (by decide) ?_
                                        exact IH177 (c8 + 1) (vp_updL mt5 ((4 * r9) + c8) ((((mt5 ((4 * r9) + c8)) * (mt5 ((4 * kk) + kk))) - ((mt5 ((4 * r9) + kk)) * (mt5 ((4 * kk) + c8)))) / bf)) (by omega) (by omega) (el_s (by omega) (by omega) (by omega) hm5) ls H locs (lv_sub hl [1, 2, 3, 4, 5, 0] rfl) hP hD hS
                                  exact J177 _ (kk + 1) mt4 (Nat.lt_succ_self _) (by omega) (hm4) ls H locs (lv_sub hl [1, 2, 3, 4, 5, 0] rfl) hP hD hS
                            exact J162 _ (kk + 1) mt3 (Nat.lt_succ_self _) (by omega) (el_0) ls H locs (lv_sub hl [1, 2, 3, 4, 0] rfl) hP hD hS
                          refine lv_iload hx hb dd_Model_determinant_142 (lv_at hl 4 rfl) ?_
                          refine lv_iload hx hb dd_Model_determinant_144 (lv_at hl 3 rfl) ?_
                          refine lv_icmp_eq (tgt := 154) hx hb dd_Model_determinant_146 (by decide) (fun h146 => ?_) (fun h146 => ?_)
                          · skip
                            have h146 : p9 = kk := (nI_eq (a := p9) (b := kk) (by omega) (by omega)).mp h146
                            refine lv_lload_n hx hb dd_Model_determinant_154 rfl (lv_at hl 1 rfl) ?_
                            refine mm_topl (y := ds_f p9 kk sg) (by first | exact (if_pos h146).symm | exact (if_neg h146).symm) ?_
                            refine lv_lstore_n (lv' := [(1, .long (ds_f p9 kk sg)), (0, .ref o), (3, .long bf), (5, .int (nI kk)), (6, .int (nI p9))]) hx hb dd_Model_determinant_155 rfl hl (by decide) rfl (fun ls hl => ?_)
                            exact J156   ls H locs (lv_sub hl [1, 0, 2, 3, 4] rfl) hP hD hS
                          · skip
                            have h146 : ¬ (p9 = kk) := fun q9 => h146 ((nI_eq (a := p9) (b := kk) (by omega) (by omega)).mpr q9)
                            refine lv_lload_n hx hb dd_Model_determinant_149 rfl (lv_at hl 1 rfl) ?_
                            refine lv_lneg hx hb dd_Model_determinant_150 ?_
                            refine lv_goto (tgt := 155) hx hb dd_Model_determinant_151 (by decide) ?_
                            refine mm_topl (y := ds_f p9 kk sg) (by first | exact (if_pos h146).symm | exact (if_neg h146).symm) ?_
                            refine lv_lstore_n (lv' := [(1, .long (ds_f p9 kk sg)), (0, .ref o), (3, .long bf), (5, .int (nI kk)), (6, .int (nI p9))]) hx hb dd_Model_determinant_155 rfl hl (by decide) rfl (fun ls hl => ?_)
                            exact J156   ls H locs (lv_sub hl [1, 0, 2, 3, 4] rfl) hP hD hS
                        exact J142 mt2 (by first | exact sq_id h81 hm2 | (rw [show rs = c9 by omega]; exact hm2)) ls H locs (lv_sub hl [0, 1, 2, 3, 4] rfl) hP hD hS
                      · skip
                        have h74 : ¬ (rs ≤ c9) := fun q9 => h74 ((nI_leI (a := rs) (b := c9) (by omega) (by omega)).mpr q9)
                        refine lv_iload hx hb dd_Model_determinant_77 (lv_at hl 4 rfl) ?_
                        refine lv_iload hx hb dd_Model_determinant_79 (lv_at hl 3 rfl) ?_
                        refine lv_icmp_eq (tgt := 142) hx hb dd_Model_determinant_81 (by decide) (fun h81 => ?_) (fun h81 => ?_)
                        · skip
                          have h81 : p9 = kk := (nI_eq (a := p9) (b := kk) (by omega) (by omega)).mp h81
                          have J142 : ∀ (mt3 : Nat → Int64) (hm3 : mt3 = sq_f mt9 p9 kk rs), ∀ (ls : Array Slot) (H : Heap) (locs : List Loc), lv_has ls 10 [(0, .ref o), (1, .long sg), (3, .long bf), (5, .int (nI kk)), (6, .int (nI p9))] → va_P D kc_all [(o, .inr (7, [.int thr, .int (nI n), .ref ml, .ref mm, .ref mw, .ref mc, .int (nI k), .ref mg, .ref md, .int so, .int fo, .ref mb, .long bb, .long bc, .ref mt, .long be, .ref mr, .int (nI rs), .ref mo, .int (nI rc), .ref mx, .ref mp, .ref nk, .ref na, .ref nv, .ref nf, .ref ns, .ref ne, .ref nw, .ref mf])), (mx, .inl (cL, 16, .inr (.inl mt3)))] H → va_D A [(o, .inr (7, [.int thr, .int (nI n), .ref ml, .ref mm, .ref mw, .ref mc, .int (nI k), .ref mg, .ref md, .int so, .int fo, .ref mb, .long bb, .long bc, .ref mt, .long be, .ref mr, .int (nI rs), .ref mo, .int (nI rc), .ref mx, .ref mp, .ref nk, .ref na, .ref nv, .ref nf, .ref ns, .ref ne, .ref nw, .ref mf])), (mx, .inl (cL, 16, .inr (.inl mt3)))] → va_S A s.heap H locs → W p l e (headSpec ww_Model_determinant ({ frames := 0, cells := 0, slots := 0, locals := 0 } : Room)).room s m ([.ref o]).toArray below meth c H locs 0 0 (MQ below (qq_Model_determinant D cI cZ cL cQ o ml mm mw mc mg md mb mt mr mo mx mp nk na nv nf ns ne nw mf thr n k so fo bb bc be rs rc m0 A) ([.ref o]).toArray s 0 0 A) (F0 m 142 ls []) := by
                            intro mt3 hm3 ls H locs hl hP hD hS
                            have J156 : ∀ (ls : Array Slot) (H : Heap) (locs : List Loc), lv_has ls 10 [(0, .ref o), (1, .long (ds_f p9 kk sg)), (3, .long bf), (5, .int (nI kk)), (6, .int (nI p9))] → va_P D kc_all [(o, .inr (7, [.int thr, .int (nI n), .ref ml, .ref mm, .ref mw, .ref mc, .int (nI k), .ref mg, .ref md, .int so, .int fo, .ref mb, .long bb, .long bc, .ref mt, .long be, .ref mr, .int (nI rs), .ref mo, .int (nI rc), .ref mx, .ref mp, .ref nk, .ref na, .ref nv, .ref nf, .ref ns, .ref ne, .ref nw, .ref mf])), (mx, .inl (cL, 16, .inr (.inl mt3)))] H → va_D A [(o, .inr (7, [.int thr, .int (nI n), .ref ml, .ref mm, .ref mw, .ref mc, .int (nI k), .ref mg, .ref md, .int so, .int fo, .ref mb, .long bb, .long bc, .ref mt, .long be, .ref mr, .int (nI rs), .ref mo, .int (nI rc), .ref mx, .ref mp, .ref nk, .ref na, .ref nv, .ref nf, .ref ns, .ref ne, .ref nw, .ref mf])), (mx, .inl (cL, 16, .inr (.inl mt3)))] → va_S A s.heap H locs → W p l e (headSpec ww_Model_determinant ({ frames := 0, cells := 0, slots := 0, locals := 0 } : Room)).room s m ([.ref o]).toArray below meth c H locs 0 0 (MQ below (qq_Model_determinant D cI cZ cL cQ o ml mm mw mc mg md mb mt mr mo mx mp nk na nv nf ns ne nw mf thr n k so fo bb bc be rs rc m0 A) ([.ref o]).toArray s 0 0 A) (F0 m 156 ls []) := by
                              intro   ls H locs hl hP hD hS
                              refine lv_iload hx hb dd_Model_determinant_156 (lv_at hl 3 rfl) ?_
                              refine lv_iconst (v := 1) hx hb dd_Model_determinant_158 (by decide) ?_
                              refine lv_iadd hx hb dd_Model_determinant_159 ?_
                              refine mm_topi (y := nI (kk + 1)) (nI_add kk 1) ?_
                              refine lv_istore (lv' := [(7, .int (nI (kk + 1))), (0, .ref o), (1, .long (ds_f p9 kk sg)), (3, .long bf), (5, .int (nI kk)), (6, .int (nI p9))]) hx hb dd_Model_determinant_160 hl (by decide) rfl (fun ls hl => ?_)
                              have J162 : ∀ (N : Nat) (r9 : Nat) (mt4 : Nat → Int64), (rs - r9) < N → ∀ (hr9 : kk + 1 ≤ r9 ∧ r9 ≤ rs) (hm4 : mt4 = el_f mt3 kk bf rs r9 (kk + 1)), ∀ (ls : Array Slot) (H : Heap) (locs : List Loc), lv_has ls 10 [(0, .ref o), (1, .long (ds_f p9 kk sg)), (3, .long bf), (5, .int (nI kk)), (7, .int (nI r9))] → va_P D kc_all [(o, .inr (7, [.int thr, .int (nI n), .ref ml, .ref mm, .ref mw, .ref mc, .int (nI k), .ref mg, .ref md, .int so, .int fo, .ref mb, .long bb, .long bc, .ref mt, .long be, .ref mr, .int (nI rs), .ref mo, .int (nI rc), .ref mx, .ref mp, .ref nk, .ref na, .ref nv, .ref nf, .ref ns, .ref ne, .ref nw, .ref mf])), (mx, .inl (cL, 16, .inr (.inl mt4)))] H → va_D A [(o, .inr (7, [.int thr, .int (nI n), .ref ml, .ref mm, .ref mw, .ref mc, .int (nI k), .ref mg, .ref md, .int so, .int fo, .ref mb, .long bb, .long bc, .ref mt, .long be, .ref mr, .int (nI rs), .ref mo, .int (nI rc), .ref mx, .ref mp, .ref nk, .ref na, .ref nv, .ref nf, .ref ns, .ref ne, .ref nw, .ref mf])), (mx, .inl (cL, 16, .inr (.inl mt4)))] → va_S A s.heap H locs → W p l e (headSpec ww_Model_determinant ({ frames := 0, cells := 0, slots := 0, locals := 0 } : Room)).room s m ([.ref o]).toArray below meth c H locs 0 0 (MQ below (qq_Model_determinant D cI cZ cL cQ o ml mm mw mc mg md mb mt mr mo mx mp nk na nv nf ns ne nw mf thr n k so fo bb bc be rs rc m0 A) ([.ref o]).toArray s 0 0 A) (F0 m 162 ls []) := by
                                intro N
                                induction N with
                                | zero => intro r9 mt4 hN9; exact absurd hN9 (Nat.not_lt_zero _)
                                | succ N IH162 =>
                                  intro r9 mt4 hN9 hr9 hm4 ls H locs hl hP hD hS
                                  refine lv_iload hx hb dd_Model_determinant_162 (lv_at hl 4 rfl) ?_
                                  refine lv_aload_n hx hb dd_Model_determinant_164 rfl (lv_at hl 0 rfl) ?_
                                  refine va_get (D := D) (ci := 7) (v := .int (nI rs)) (C := RR_Model) (T := FF_Model) (N := 30) hx hb htb hi_Model hown hK hP 0 rfl rfl 17 (by decide) hf_111 (fun _ h9 => h9) rfl dd_Model_determinant_165 ?_
                                  refine lv_icmp_ge (tgt := 263) hx hb dd_Model_determinant_168 (by decide) (fun h168 => ?_) (fun h168 => ?_)
                                  · skip
                                    have h168 : rs ≤ r9 := (nI_leI (a := rs) (b := r9) (by omega) (by omega)).mp h168
                                    refine lv_aload_n hx hb dd_Model_determinant_263 rfl (lv_at hl 0 rfl) ?_
                                    refine va_get (D := D) (ci := 7) (v := .ref mx) (C := RR_Model) (T := FF_Model) (N := 30) hx hb htb hi_Model hown hK hP 0 rfl rfl 20 (by decide) hf_46 (fun _ h9 => h9) rfl dd_Model_determinant_264 ?_
                                    refine lv_iconst (v := 4) hx hb dd_Model_determinant_267 (by decide) ?_
                                    refine lv_iload hx hb dd_Model_determinant_268 (lv_at hl 3 rfl) ?_
                                    refine lv_imul hx hb dd_Model_determinant_270 ?_
                                    refine mm_topi (y := nI (4 * kk)) (pk_mul 4 kk) ?_
                                    refine lv_iload hx hb dd_Model_determinant_271 (lv_at hl 3 rfl) ?_
                                    refine lv_iadd hx hb dd_Model_determinant_273 ?_
                                    refine mm_topi (y := nI ((4 * kk) + kk)) (nI_add (4 * kk) kk) ?_
                                    refine mm_lald hx hb hK hP 1 2 rfl rfl ((4 * kk) + kk) (rfl) (by omega) (by first | decide | omega) dd_Model_determinant_274 ?_
                                    refine lv_lstore_n (lv' := [(3, .long (mt4 ((4 * kk) + kk))), (0, .ref o), (1, .long (ds_f p9 kk sg)), (5, .int (nI kk)), (7, .int (nI r9))]) hx hb dd_Model_determinant_275 rfl hl (by decide) rfl (fun ls hl => ?_)
                                    refine lv_iinc (k := 3) (v := nI (kk + 1)) (lv' := [(5, .int (nI (kk + 1))), (3, .long (mt4 ((4 * kk) + kk))), (0, .ref o), (1, .long (ds_f p9 kk sg)), (7, .int (nI r9))]) hx hb dd_Model_determinant_276 hl rfl (nI_1 _) (by decide) rfl (fun ls hl => ?_)
                                    refine lv_goto (tgt := 7) hx hb dd_Model_determinant_279 (by decide) ?_
                                    exact IH7 (kk + 1) mt4 (ds_f p9 kk sg) (mt4 ((4 * kk) + kk)) (by omega) (by omega) (by rw [el_d (by omega) hm4, hm3, sq_d (by omega) (by omega)]; exact hq.2) (dt_s (by omega) (by omega) hv hpp hq.1 hm3 (by rw [show rs = r9 by omega]; rw [show rs = r9 by omega] at hm4; exact hm4)) ls H locs (lv_sub hl [2, 3, 1, 0] rfl) hP hD hS
                                  · skip
                                    have h168 : ¬ (rs ≤ r9) := fun q9 => h168 ((nI_leI (a := rs) (b := r9) (by omega) (by omega)).mpr q9)
                                    refine lv_iload hx hb dd_Model_determinant_171 (lv_at hl 3 rfl) ?_
                                    refine lv_iconst (v := 1) hx hb dd_Model_determinant_173 (by decide) ?_
                                    refine lv_iadd hx hb dd_Model_determinant_174 ?_
                                    refine mm_topi (y := nI (kk + 1)) (nI_add kk 1) ?_
                                    refine lv_istore (lv' := [(8, .int (nI (kk + 1))), (0, .ref o), (1, .long (ds_f p9 kk sg)), (3, .long bf), (5, .int (nI kk)), (7, .int (nI r9))]) hx hb dd_Model_determinant_175 hl (by decide) rfl (fun ls hl => ?_)
                                    have J177 : ∀ (N : Nat) (c8 : Nat) (mt5 : Nat → Int64), (rs - c8) < N → ∀ (hc8 : kk + 1 ≤ c8 ∧ c8 ≤ rs) (hm5 : mt5 = el_f mt3 kk bf rs r9 c8), ∀ (ls : Array Slot) (H : Heap) (locs : List Loc), lv_has ls 10 [(0, .ref o), (1, .long (ds_f p9 kk sg)), (3, .long bf), (5, .int (nI kk)), (7, .int (nI r9)), (8, .int (nI c8))] → va_P D kc_all [(o, .inr (7, [.int thr, .int (nI n), .ref ml, .ref mm, .ref mw, .ref mc, .int (nI k), .ref mg, .ref md, .int so, .int fo, .ref mb, .long bb, .long bc, .ref mt, .long be, .ref mr, .int (nI rs), .ref mo, .int (nI rc), .ref mx, .ref mp, .ref nk, .ref na, .ref nv, .ref nf, .ref ns, .ref ne, .ref nw, .ref mf])), (mx, .inl (cL, 16, .inr (.inl mt5)))] H → va_D A [(o, .inr (7, [.int thr, .int (nI n), .ref ml, .ref mm, .ref mw, .ref mc, .int (nI k), .ref mg, .ref md, .int so, .int fo, .ref mb, .long bb, .long bc, .ref mt, .long be, .ref mr, .int (nI rs), .ref mo, .int (nI rc), .ref mx, .ref mp, .ref nk, .ref na, .ref nv, .ref nf, .ref ns, .ref ne, .ref nw, .ref mf])), (mx, .inl (cL, 16, .inr (.inl mt5)))] → va_S A s.heap H locs → W p l e (headSpec ww_Model_determinant ({ frames := 0, cells := 0, slots := 0, locals := 0 } : Room)).room s m ([.ref o]).toArray below meth c H locs 0 0 (MQ below (qq_Model_determinant D cI cZ cL cQ o ml mm mw mc mg md mb mt mr mo mx mp nk na nv nf ns ne nw mf thr n k so fo bb bc be rs rc m0 A) ([.ref o]).toArray s 0 0 A) (F0 m 177 ls []) := by
                                      intro N
                                      induction N with
                                      | zero => intro c8 mt5 hN9; exact absurd hN9 (Nat.not_lt_zero _)
                                      | succ N IH177 =>
                                        intro c8 mt5 hN9 hc8 hm5 ls H locs hl hP hD hS
                                        refine lv_iload hx hb dd_Model_determinant_177 (lv_at hl 5 rfl) ?_
                                        refine lv_aload_n hx hb dd_Model_determinant_179 rfl (lv_at hl 0 rfl) ?_
                                        refine va_get (D := D) (ci := 7) (v := .int (nI rs)) (C := RR_Model) (T := FF_Model) (N := 30) hx hb htb hi_Model hown hK hP 0 rfl rfl 17 (by decide) hf_111 (fun _ h9 => h9) rfl dd_Model_determinant_180 ?_
                                        refine lv_icmp_ge (tgt := 257) hx hb dd_Model_determinant_183 (by decide) (fun h183 => ?_) (fun h183 => ?_)
                                        · skip
                                          have h183 : rs ≤ c8 := (nI_leI (a := rs) (b := c8) (by omega) (by omega)).mp h183
                                          refine lv_iinc (k := 4) (v := nI (r9 + 1)) (lv' := [(7, .int (nI (r9 + 1))), (0, .ref o), (1, .long (ds_f p9 kk sg)), (3, .long bf), (5, .int (nI kk)), (8, .int (nI c8))]) hx hb dd_Model_determinant_257 hl rfl (nI_1 _) (by decide) rfl (fun ls hl => ?_)
                                          refine lv_goto (tgt := 162) hx hb dd_Model_determinant_260 (by decide) ?_
                                          exact IH162 (r9 + 1) mt5 (by omega) (by omega) (el_r (by omega) hm5) ls H locs (lv_sub hl [1, 2, 3, 4, 0] rfl) hP hD hS
                                        · skip
                                          have h183 : ¬ (rs ≤ c8) := fun q9 => h183 ((nI_leI (a := rs) (b := c8) (by omega) (by omega)).mpr q9)
                                          refine lv_aload_n hx hb dd_Model_determinant_186 rfl (lv_at hl 0 rfl) ?_
                                          refine va_get (D := D) (ci := 7) (v := .ref mx) (C := RR_Model) (T := FF_Model) (N := 30) hx hb htb hi_Model hown hK hP 0 rfl rfl 20 (by decide) hf_46 (fun _ h9 => h9) rfl dd_Model_determinant_187 ?_
                                          refine lv_iconst (v := 4) hx hb dd_Model_determinant_190 (by decide) ?_
                                          refine lv_iload hx hb dd_Model_determinant_191 (lv_at hl 4 rfl) ?_
                                          refine lv_imul hx hb dd_Model_determinant_193 ?_
                                          refine mm_topi (y := nI (4 * r9)) (pk_mul 4 r9) ?_
                                          refine lv_iload hx hb dd_Model_determinant_194 (lv_at hl 5 rfl) ?_
                                          refine lv_iadd hx hb dd_Model_determinant_196 ?_
                                          refine mm_topi (y := nI ((4 * r9) + c8)) (nI_add (4 * r9) c8) ?_
                                          refine lv_aload_n hx hb dd_Model_determinant_197 rfl (lv_at hl 0 rfl) ?_
                                          refine va_get (D := D) (ci := 7) (v := .ref mx) (C := RR_Model) (T := FF_Model) (N := 30) hx hb htb hi_Model hown hK hP 0 rfl rfl 20 (by decide) hf_46 (fun _ h9 => h9) rfl dd_Model_determinant_198 ?_
                                          refine lv_iconst (v := 4) hx hb dd_Model_determinant_201 (by decide) ?_
                                          refine lv_iload hx hb dd_Model_determinant_202 (lv_at hl 4 rfl) ?_
                                          refine lv_imul hx hb dd_Model_determinant_204 ?_
                                          refine mm_topi (y := nI (4 * r9)) (pk_mul 4 r9) ?_
                                          refine lv_iload hx hb dd_Model_determinant_205 (lv_at hl 5 rfl) ?_
                                          refine lv_iadd hx hb dd_Model_determinant_207 ?_
                                          refine mm_topi (y := nI ((4 * r9) + c8)) (nI_add (4 * r9) c8) ?_
                                          refine mm_lald hx hb hK hP 1 2 rfl rfl ((4 * r9) + c8) (rfl) (by omega) (by first | decide | omega) dd_Model_determinant_208 ?_
                                          refine lv_aload_n hx hb dd_Model_determinant_209 rfl (lv_at hl 0 rfl) ?_
                                          refine va_get (D := D) (ci := 7) (v := .ref mx) (C := RR_Model) (T := FF_Model) (N := 30) hx hb htb hi_Model hown hK hP 0 rfl rfl 20 (by decide) hf_46 (fun _ h9 => h9) rfl dd_Model_determinant_210 ?_
                                          refine lv_iconst (v := 4) hx hb dd_Model_determinant_213 (by decide) ?_
                                          refine lv_iload hx hb dd_Model_determinant_214 (lv_at hl 3 rfl) ?_
                                          refine lv_imul hx hb dd_Model_determinant_216 ?_
                                          refine mm_topi (y := nI (4 * kk)) (pk_mul 4 kk) ?_
                                          refine lv_iload hx hb dd_Model_determinant_217 (lv_at hl 3 rfl) ?_
                                          refine lv_iadd hx hb dd_Model_determinant_219 ?_
                                          refine mm_topi (y := nI ((4 * kk) + kk)) (nI_add (4 * kk) kk) ?_
                                          refine mm_lald hx hb hK hP 1 2 rfl rfl ((4 * kk) + kk) (rfl) (by omega) (by first | decide | omega) dd_Model_determinant_220 ?_
                                          refine lv_lmul hx hb dd_Model_determinant_221 ?_
                                          refine lv_aload_n hx hb dd_Model_determinant_222 rfl (lv_at hl 0 rfl) ?_
                                          refine va_get (D := D) (ci := 7) (v := .ref mx) (C := RR_Model) (T := FF_Model) (N := 30) hx hb htb hi_Model hown hK hP 0 rfl rfl 20 (by decide) hf_46 (fun _ h9 => h9) rfl dd_Model_determinant_223 ?_
                                          refine lv_iconst (v := 4) hx hb dd_Model_determinant_226 (by decide) ?_
                                          refine lv_iload hx hb dd_Model_determinant_227 (lv_at hl 4 rfl) ?_
                                          refine lv_imul hx hb dd_Model_determinant_229 ?_
                                          refine mm_topi (y := nI (4 * r9)) (pk_mul 4 r9) ?_
                                          refine lv_iload hx hb dd_Model_determinant_230 (lv_at hl 3 rfl) ?_
                                          refine lv_iadd hx hb dd_Model_determinant_232 ?_
                                          refine mm_topi (y := nI ((4 * r9) + kk)) (nI_add (4 * r9) kk) ?_
                                          refine mm_lald hx hb hK hP 1 2 rfl rfl ((4 * r9) + kk) (rfl) (by omega) (by first | decide | omega) dd_Model_determinant_233 ?_
                                          refine lv_aload_n hx hb dd_Model_determinant_234 rfl (lv_at hl 0 rfl) ?_
                                          refine va_get (D := D) (ci := 7) (v := .ref mx) (C := RR_Model) (T := FF_Model) (N := 30) hx hb htb hi_Model hown hK hP 0 rfl rfl 20 (by decide) hf_46 (fun _ h9 => h9) rfl dd_Model_determinant_235 ?_
                                          refine lv_iconst (v := 4) hx hb dd_Model_determinant_238 (by decide) ?_
                                          refine lv_iload hx hb dd_Model_determinant_239 (lv_at hl 3 rfl) ?_
                                          refine lv_imul hx hb dd_Model_determinant_241 ?_
                                          refine mm_topi (y := nI (4 * kk)) (pk_mul 4 kk) ?_
                                          refine lv_iload hx hb dd_Model_determinant_242 (lv_at hl 5 rfl) ?_
                                          refine lv_iadd hx hb dd_Model_determinant_244 ?_
                                          refine mm_topi (y := nI ((4 * kk) + c8)) (nI_add (4 * kk) c8) ?_
                                          refine mm_lald hx hb hK hP 1 2 rfl rfl ((4 * kk) + c8) (rfl) (by omega) (by first | decide | omega) dd_Model_determinant_245 ?_
                                          refine lv_lmul hx hb dd_Model_determinant_246 ?_
                                          refine lv_lsub hx hb dd_Model_determinant_247 ?_
                                          refine lv_lload_n hx hb dd_Model_determinant_248 rfl (lv_at hl 2 rfl) ?_
                                          refine lv_ldiv hx hb dd_Model_determinant_249 (hbf) ?_
                                          refine mm_last hx hb hK hP hD hS 1 2 rfl rfl ((4 * r9) + c8) (rfl) (by omega) (by first | decide | omega) dd_Model_determinant_250 (fun H locs hP hD hS => ?_)
                                          have hP : va_P D kc_all [(o, .inr (7, [.int thr, .int (nI n), .ref ml, .ref mm, .ref mw, .ref mc, .int (nI k), .ref mg, .ref md, .int so, .int fo, .ref mb, .long bb, .long bc, .ref mt, .long be, .ref mr, .int (nI rs), .ref mo, .int (nI rc), .ref mx, .ref mp, .ref nk, .ref na, .ref nv, .ref nf, .ref ns, .ref ne, .ref nw, .ref mf])), (mx, .inl (cL, 16, .inr (.inl (vp_updL mt5 ((4 * r9) + c8) ((((mt5 ((4 * r9) + c8)) * (mt5 ((4 * kk) + kk))) - ((mt5 ((4 * r9) + kk)) * (mt5 ((4 * kk) + c8)))) / bf)))))] H := hP
                                          have hD : va_D A [(o, .inr (7, [.int thr, .int (nI n), .ref ml, .ref mm, .ref mw, .ref mc, .int (nI k), .ref mg, .ref md, .int so, .int fo, .ref mb, .long bb, .long bc, .ref mt, .long be, .ref mr, .int (nI rs), .ref mo, .int (nI rc), .ref mx, .ref mp, .ref nk, .ref na, .ref nv, .ref nf, .ref ns, .ref ne, .ref nw, .ref mf])), (mx, .inl (cL, 16, .inr (.inl (vp_updL mt5 ((4 * r9) + c8) ((((mt5 ((4 * r9) + c8)) * (mt5 ((4 * kk) + kk))) - ((mt5 ((4 * r9) + kk)) * (mt5 ((4 * kk) + c8)))) / bf)))))] := hD
                                          refine lv_iinc (k := 5) (v := nI (c8 + 1)) (lv' := [(8, .int (nI (c8 + 1))), (0, .ref o), (1, .long (ds_f p9 kk sg)), (3, .long bf), (5, .int (nI kk)), (7, .int (nI r9))]) hx hb dd_Model_determinant_251 hl rfl (nI_1 _) (by decide) rfl (fun ls hl => ?_)
                                          refine lv_goto (tgt := 177) hx hb dd_Model_determinant_254 (by decide) ?_
                                          exact IH177 (c8 + 1) (vp_updL mt5 ((4 * r9) + c8) ((((mt5 ((4 * r9) + c8)) * (mt5 ((4 * kk) + kk))) - ((mt5 ((4 * r9) + kk)) * (mt5 ((4 * kk) + c8)))) / bf)) (by omega) (by omega) (el_s (by omega) (by omega) (by omega) hm5) ls H locs (lv_sub hl [1, 2, 3, 4, 5, 0] rfl) hP hD hS
                                    exact J177 _ (kk + 1) mt4 (Nat.lt_succ_self _) (by omega) (hm4) ls H locs (lv_sub hl [1, 2, 3, 4, 5, 0] rfl) hP hD hS
                              exact J162 _ (kk + 1) mt3 (Nat.lt_succ_self _) (by omega) (el_0) ls H locs (lv_sub hl [1, 2, 3, 4, 0] rfl) hP hD hS
                            refine lv_iload hx hb dd_Model_determinant_142 (lv_at hl 4 rfl) ?_
                            refine lv_iload hx hb dd_Model_determinant_144 (lv_at hl 3 rfl) ?_
                            refine lv_icmp_eq (tgt := 154) hx hb dd_Model_determinant_146 (by decide) (fun h146 => ?_) (fun h146 => ?_)
                            · skip
                              have h146 : p9 = kk := (nI_eq (a := p9) (b := kk) (by omega) (by omega)).mp h146
                              refine lv_lload_n hx hb dd_Model_determinant_154 rfl (lv_at hl 1 rfl) ?_
                              refine mm_topl (y := ds_f p9 kk sg) (by first | exact (if_pos h146).symm | exact (if_neg h146).symm) ?_
                              refine lv_lstore_n (lv' := [(1, .long (ds_f p9 kk sg)), (0, .ref o), (3, .long bf), (5, .int (nI kk)), (6, .int (nI p9))]) hx hb dd_Model_determinant_155 rfl hl (by decide) rfl (fun ls hl => ?_)
                              exact J156   ls H locs (lv_sub hl [1, 0, 2, 3, 4] rfl) hP hD hS
                            · skip
                              have h146 : ¬ (p9 = kk) := fun q9 => h146 ((nI_eq (a := p9) (b := kk) (by omega) (by omega)).mpr q9)
                              refine lv_lload_n hx hb dd_Model_determinant_149 rfl (lv_at hl 1 rfl) ?_
                              refine lv_lneg hx hb dd_Model_determinant_150 ?_
                              refine lv_goto (tgt := 155) hx hb dd_Model_determinant_151 (by decide) ?_
                              refine mm_topl (y := ds_f p9 kk sg) (by first | exact (if_pos h146).symm | exact (if_neg h146).symm) ?_
                              refine lv_lstore_n (lv' := [(1, .long (ds_f p9 kk sg)), (0, .ref o), (3, .long bf), (5, .int (nI kk)), (6, .int (nI p9))]) hx hb dd_Model_determinant_155 rfl hl (by decide) rfl (fun ls hl => ?_)
                              exact J156   ls H locs (lv_sub hl [1, 0, 2, 3, 4] rfl) hP hD hS
                          exact J142 mt2 (by first | exact sq_id h81 hm2 | (rw [show rs = c9 by omega]; exact hm2)) ls H locs (lv_sub hl [0, 1, 2, 3, 4] rfl) hP hD hS
                        · skip
                          have h81 : ¬ (p9 = kk) := fun q9 => h81 ((nI_eq (a := p9) (b := kk) (by omega) (by omega)).mpr q9)
                          refine lv_aload_n hx hb dd_Model_determinant_84 rfl (lv_at hl 0 rfl) ?_
                          refine va_get (D := D) (ci := 7) (v := .ref mx) (C := RR_Model) (T := FF_Model) (N := 30) hx hb htb hi_Model hown hK hP 0 rfl rfl 20 (by decide) hf_46 (fun _ h9 => h9) rfl dd_Model_determinant_85 ?_
                          refine lv_iconst (v := 4) hx hb dd_Model_determinant_88 (by decide) ?_
                          refine lv_iload hx hb dd_Model_determinant_89 (lv_at hl 4 rfl) ?_
                          refine lv_imul hx hb dd_Model_determinant_91 ?_
                          refine mm_topi (y := nI (4 * p9)) (pk_mul 4 p9) ?_
                          refine lv_iload hx hb dd_Model_determinant_92 (lv_at hl 5 rfl) ?_
                          refine lv_iadd hx hb dd_Model_determinant_94 ?_
                          refine mm_topi (y := nI ((4 * p9) + c9)) (nI_add (4 * p9) c9) ?_
                          refine mm_lald hx hb hK hP 1 2 rfl rfl ((4 * p9) + c9) (rfl) (by omega) (by first | decide | omega) dd_Model_determinant_95 ?_
                          refine lv_lstore (lv' := [(8, .long (mt2 ((4 * p9) + c9))), (0, .ref o), (1, .long sg), (3, .long bf), (5, .int (nI kk)), (6, .int (nI p9)), (7, .int (nI c9))]) hx hb dd_Model_determinant_96 hl (by decide) rfl (fun ls hl => ?_)
                          refine lv_aload_n hx hb dd_Model_determinant_98 rfl (lv_at hl 1 rfl) ?_
                          refine va_get (D := D) (ci := 7) (v := .ref mx) (C := RR_Model) (T := FF_Model) (N := 30) hx hb htb hi_Model hown hK hP 0 rfl rfl 20 (by decide) hf_46 (fun _ h9 => h9) rfl dd_Model_determinant_99 ?_
                          refine lv_iconst (v := 4) hx hb dd_Model_determinant_102 (by decide) ?_
                          refine lv_iload hx hb dd_Model_determinant_103 (lv_at hl 5 rfl) ?_
                          refine lv_imul hx hb dd_Model_determinant_105 ?_
                          refine mm_topi (y := nI (4 * p9)) (pk_mul 4 p9) ?_
                          refine lv_iload hx hb dd_Model_determinant_106 (lv_at hl 6 rfl) ?_
                          refine lv_iadd hx hb dd_Model_determinant_108 ?_
                          refine mm_topi (y := nI ((4 * p9) + c9)) (nI_add (4 * p9) c9) ?_
                          refine lv_aload_n hx hb dd_Model_determinant_109 rfl (lv_at hl 1 rfl) ?_
                          refine va_get (D := D) (ci := 7) (v := .ref mx) (C := RR_Model) (T := FF_Model) (N := 30) hx hb htb hi_Model hown hK hP 0 rfl rfl 20 (by decide) hf_46 (fun _ h9 => h9) rfl dd_Model_determinant_110 ?_
                          refine lv_iconst (v := 4) hx hb dd_Model_determinant_113 (by decide) ?_
                          refine lv_iload hx hb dd_Model_determinant_114 (lv_at hl 4 rfl) ?_
                          refine lv_imul hx hb dd_Model_determinant_116 ?_
                          refine mm_topi (y := nI (4 * kk)) (pk_mul 4 kk) ?_
                          refine lv_iload hx hb dd_Model_determinant_117 (lv_at hl 6 rfl) ?_
                          refine lv_iadd hx hb dd_Model_determinant_119 ?_
                          refine mm_topi (y := nI ((4 * kk) + c9)) (nI_add (4 * kk) c9) ?_
                          refine mm_lald hx hb hK hP 1 2 rfl rfl ((4 * kk) + c9) (rfl) (by omega) (by first | decide | omega) dd_Model_determinant_120 ?_
                          refine mm_last hx hb hK hP hD hS 1 2 rfl rfl ((4 * p9) + c9) (rfl) (by omega) (by first | decide | omega) dd_Model_determinant_121 (fun H locs hP hD hS => ?_)
                          have hP : va_P D kc_all [(o, .inr (7, [.int thr, .int (nI n), .ref ml, .ref mm, .ref mw, .ref mc, .int (nI k), .ref mg, .ref md, .int so, .int fo, .ref mb, .long bb, .long bc, .ref mt, .long be, .ref mr, .int (nI rs), .ref mo, .int (nI rc), .ref mx, .ref mp, .ref nk, .ref na, .ref nv, .ref nf, .ref ns, .ref ne, .ref nw, .ref mf])), (mx, .inl (cL, 16, .inr (.inl (vp_updL mt2 ((4 * p9) + c9) (mt2 ((4 * kk) + c9))))))] H := hP
                          have hD : va_D A [(o, .inr (7, [.int thr, .int (nI n), .ref ml, .ref mm, .ref mw, .ref mc, .int (nI k), .ref mg, .ref md, .int so, .int fo, .ref mb, .long bb, .long bc, .ref mt, .long be, .ref mr, .int (nI rs), .ref mo, .int (nI rc), .ref mx, .ref mp, .ref nk, .ref na, .ref nv, .ref nf, .ref ns, .ref ne, .ref nw, .ref mf])), (mx, .inl (cL, 16, .inr (.inl (vp_updL mt2 ((4 * p9) + c9) (mt2 ((4 * kk) + c9))))))] := hD
                          refine lv_aload_n hx hb dd_Model_determinant_122 rfl (lv_at hl 1 rfl) ?_
                          refine va_get (D := D) (ci := 7) (v := .ref mx) (C := RR_Model) (T := FF_Model) (N := 30) hx hb htb hi_Model hown hK hP 0 rfl rfl 20 (by decide) hf_46 (fun _ h9 => h9) rfl dd_Model_determinant_123 ?_
                          refine lv_iconst (v := 4) hx hb dd_Model_determinant_126 (by decide) ?_
                          refine lv_iload hx hb dd_Model_determinant_127 (lv_at hl 4 rfl) ?_
                          refine lv_imul hx hb dd_Model_determinant_129 ?_
                          refine mm_topi (y := nI (4 * kk)) (pk_mul 4 kk) ?_
                          refine lv_iload hx hb dd_Model_determinant_130 (lv_at hl 6 rfl) ?_
                          refine lv_iadd hx hb dd_Model_determinant_132 ?_
                          refine mm_topi (y := nI ((4 * kk) + c9)) (nI_add (4 * kk) c9) ?_
                          refine lv_lload hx hb dd_Model_determinant_133 (lv_at hl 0 rfl) ?_
                          refine mm_topl (y := mt2 (4 * p9 + c9)) (rfl) ?_
                          refine mm_last hx hb hK hP hD hS 1 2 rfl rfl ((4 * kk) + c9) (rfl) (by omega) (by first | decide | omega) dd_Model_determinant_135 (fun H locs hP hD hS => ?_)
                          have hP : va_P D kc_all [(o, .inr (7, [.int thr, .int (nI n), .ref ml, .ref mm, .ref mw, .ref mc, .int (nI k), .ref mg, .ref md, .int so, .int fo, .ref mb, .long bb, .long bc, .ref mt, .long be, .ref mr, .int (nI rs), .ref mo, .int (nI rc), .ref mx, .ref mp, .ref nk, .ref na, .ref nv, .ref nf, .ref ns, .ref ne, .ref nw, .ref mf])), (mx, .inl (cL, 16, .inr (.inl (vp_updL (vp_updL mt2 ((4 * p9) + c9) (mt2 ((4 * kk) + c9))) ((4 * kk) + c9) (mt2 (4 * p9 + c9))))))] H := hP
                          have hD : va_D A [(o, .inr (7, [.int thr, .int (nI n), .ref ml, .ref mm, .ref mw, .ref mc, .int (nI k), .ref mg, .ref md, .int so, .int fo, .ref mb, .long bb, .long bc, .ref mt, .long be, .ref mr, .int (nI rs), .ref mo, .int (nI rc), .ref mx, .ref mp, .ref nk, .ref na, .ref nv, .ref nf, .ref ns, .ref ne, .ref nw, .ref mf])), (mx, .inl (cL, 16, .inr (.inl (vp_updL (vp_updL mt2 ((4 * p9) + c9) (mt2 ((4 * kk) + c9))) ((4 * kk) + c9) (mt2 (4 * p9 + c9))))))] := hD
                          refine lv_iinc (k := 6) (v := nI (c9 + 1)) (lv' := [(7, .int (nI (c9 + 1))), (8, .long (mt2 ((4 * p9) + c9))), (0, .ref o), (1, .long sg), (3, .long bf), (5, .int (nI kk)), (6, .int (nI p9))]) hx hb dd_Model_determinant_136 hl rfl (nI_1 _) (by decide) rfl (fun ls hl => ?_)
                          refine lv_goto (tgt := 68) hx hb dd_Model_determinant_139 (by decide) ?_
                          exact IH68 (c9 + 1) (vp_updL (vp_updL mt2 ((4 * p9) + c9) (mt2 ((4 * kk) + c9))) ((4 * kk) + c9) (mt2 (4 * p9 + c9))) (by omega) (by omega) (sq_s h81 (by omega) hm2) ls H locs (lv_sub hl [2, 3, 4, 5, 6, 0] rfl) hP hD hS
                  exact J68 _ 0 mt9 (Nat.lt_succ_self _) (by omega) (sq_0) ls H locs (lv_sub hl [1, 2, 3, 4, 5, 0] rfl) hP hD hS
                refine lv_iload hx hb dd_Model_determinant_54 (lv_at hl 4 rfl) ?_
                refine lv_aload_n hx hb dd_Model_determinant_56 rfl (lv_at hl 0 rfl) ?_
                refine va_get (D := D) (ci := 7) (v := .int (nI rs)) (C := RR_Model) (T := FF_Model) (N := 30) hx hb htb hi_Model hown hK hP 0 rfl rfl 17 (by decide) hf_111 (fun _ h9 => h9) rfl dd_Model_determinant_57 ?_
                refine lv_icmp_ne (tgt := 65) hx hb dd_Model_determinant_60 (by decide) (fun h60 => ?_) (fun h60 => ?_)
                · skip
                  have h60 : ¬ (p9 = rs) := fun q9 => h60 ((nI_eq (a := p9) (b := rs) (by omega) (by omega)).mpr q9)
                  exact J65  (by first | exact ⟨by omega, h45⟩ | exact (show False by omega).elim) ls H locs (lv_sub hl [0, 1, 2, 3, 4] rfl) hP hD hS
                · skip
                  have h60 : p9 = rs := (nI_eq (a := p9) (b := rs) (by omega) (by omega)).mp h60
                  refine lv_lconst (v := 0) hx hb dd_Model_determinant_63 (by decide) ?_
                  exact W.lret (v := (0 : Int64)) hx hb hr (fun t ht hW => ⟨⟨(0 : Int64), mt9, rfl, dt_z (by omega) hv (hpv.trans (by rw [show rs - p9 = 0 by omega]; rfl)), by rw [ht]; exact hP, va_K.moved hW.alike hK, hD⟩, hS.F ht⟩) hS.2.2 dd_Model_determinant_64
              · skip
                rw [lg_cmp_eq (mt9 ((4 * p9) + kk)) (0 : Int64)] at h45
                refine lv_iinc (k := 4) (v := nI (p9 + 1)) (lv' := [(6, .int (nI (p9 + 1))), (0, .ref o), (1, .long sg), (3, .long bf), (5, .int (nI kk))]) hx hb dd_Model_determinant_48 hl rfl (nI_1 _) (by decide) rfl (fun ls hl => ?_)
                refine lv_goto (tgt := 22) hx hb dd_Model_determinant_51 (by decide) ?_
                exact IH22 (p9 + 1) (by omega) (by omega) (hpv.trans (pv_s (by omega) h45)) ls H locs (lv_sub hl [1, 2, 3, 4, 0] rfl) hP hD hS
        exact J22 _ kk (Nat.lt_succ_self _) (by omega) (rfl) ls H locs (lv_sub hl [1, 2, 3, 4, 0] rfl) hP hD hS
  exact J7 _ 0 m0 (1 : Int64) (1 : Int64) (Nat.lt_succ_self _) (by omega) (by decide) (rfl) ls _ _ (lv_sub hl [3, 2, 1, 0] rfl) hP hD hS
