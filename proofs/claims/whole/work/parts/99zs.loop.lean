/-- the law's own end, with 1 on the stack, nothing written that was there before, its room as the claim has it -/
theorem lw_ret {p : Program} {l : Launch} {e : Env} {s : State} {m : MethodId} {below : List Frame} {meth : Method} {c : Code} {b : Nat} (hx : p.tables.exec = Jvm.exec) (hb : c.code = code) (hr : meth.sig.returnType = ret) (hlocks : meth.locks = false) {pc : Nat} {H : Heap} {ls : Array Slot} (hdg : decode code pc = .ok (.ireturn, 1)) : W p l e room_1 s m #[Value.ref b] below meth c H [] 601024 7293034 (lw_Z below #[Value.ref b] s) (F0 m pc ls [.int 1]) := by
  intro T hT X
  obtain ⟨fs, hret, hrun, hended, hW, hframe⟩ := X.leave (v := some (.int 1)) (hlocks := hlocks) (fun h => by rw [hr] at h; cases h)
  have hmeth' : T.vm.method? m = some meth := X.method'
  refine ⟨T.setFrames fs, ?_, .returned (some (.int 1)), hrun, hended, rfl, ⟨_, rfl⟩, hW, hframe⟩
  jvm_step X.here [X.here.top, hx, hb, hdg, hmeth', hr, ret, narrow_b1]
  (try refine ⟨rfl, ?_⟩); (try refine ⟨rfl, ?_⟩)
  first | (intro acts; rw [hret _ acts rfl rfl rfl]) | rw [hret _ _ rfl rfl rfl]
  exact Steps.refl _
def lw_At (p : Program) (s : State) (m : MethodId) (meth : Method) (c : Code) (b L : Nat) (xs : Nat → Int32) : Prop :=
  p.tables.exec = Jvm.exec ∧ c.code = code ∧ meth.sig.returnType = ret ∧ c.maxLocals = 7 ∧ s.vm.findClass R_law = some m.cls ∧ (∀ w ∈ lw_tbl, w.before #[Value.ref b] s = true) ∧ va_X b L xs s s.heap ∧ b < s.heap.size ∧ meth.locks = false ∧ (Jvm.Cond.and given_1 narrow_1).before #[Value.ref b] s = true
set_option maxHeartbeats 8000000 in
set_option maxRecDepth 100000 in
theorem lj_loop {p : Program} {l : Launch} {e : Env} {s : State} {m : MethodId} {below : List Frame} {meth : Method} {c : Code} {D : va_G} {cI cZ cL cQ : ClassId} {b L : Nat} {xs : Nat → Int32} {ad rw : Nat → Nat} (hnt : l.stackTraces = false) (Ha : lj_Ha) (Hb : lj_Hb) (C : lj_C p s m meth c b L xs D cI cZ cL cQ) (hL : L ≤ 4608) (hr : meth.sig.returnType = ret) (hlocks : meth.locks = false) : ∀ (N i : Nat), 5000 - i < N → i ≤ 4608 → ∀ (zp : lj_P) (zt : lj_T) (zs : lj_S) (zj : lj_J) (yp : lj_Q) (yt : lj_U) (ys : lj_V) (yj : lj_Y) (ov : Nat → Int64), lj_JJ zp zt zs yp yt ys → ∀ (ls : Array Slot) (H : Heap) (locs : List Loc) (cells slots : Nat), cells ≤ 100 + i → slots ≤ 7000 + 6 * i → lv_has ls 7 [(0, .ref b), (1, .ref (ad 0)), (2, .ref (ad 30)), (3, .ref (ad 51)), (4, .int (nI i))] → va_P D kc_all (lj_W cI cZ cL cQ ad rw zp zt zs zj yp yt ys yj ov) H → va_D (mx_A s.heap.size) (lj_W cI cZ cL cQ ad rw zp zt zs zj yp yt ys yj ov) → va_S (mx_A s.heap.size) s.heap H locs → W p l e room_1 s m #[Value.ref b] below meth c H locs cells slots (lw_Z below #[Value.ref b] s) (F0 m 23 ls []) := by
  intro N
  induction N with
  | zero => intro i h; exact absurd h (Nat.not_lt_zero _)
  | succ N IH =>
    intro i hN hi9 zp zt zs zj yp yt ys yj ov hJ ls H locs cells slots hc hs hl hP hD hS
    have hC := C
    obtain ⟨hx, hb, hml, hown, htb, hX, hbl, hK, hTr⟩ := C
    refine lv_iload hx hb dd_Law_law_23 (lv_at hl 4 rfl) ?_
    refine lv_aload_n hx hb dd_Law_law_25 rfl (lv_at hl 0 rfl) ?_
    refine va_slen hx hb hX hbl (Nat.not_le.mpr hbl) hS dd_Law_law_26 ?_
    refine lv_bipush (v := 9) hx hb dd_Law_law_27 (by decide) ?_
    refine lv_isub hx hb dd_Law_law_29 ?_
    refine lv_icmp_gt (tgt := 1098) hx hb dd_Law_law_30 (by decide) (fun h => ?_) (fun h => ?_)
    · refine lv_iconst (v := 1) hx hb dd_Law_law_1098 (by decide) ?_
      refine va_forget (fun q hq => hS.2.2 q hq) ?_
      refine W.widen (k := 601024) (n := 7293034) (by omega) (by omega) ?_
      exact lw_ret hx hb hr hlocks dd_Law_law_1099
    · have hlt : i + 9 ≤ L := Nat.le_of_not_lt (fun q => h ((lj_gt hL (by omega)).mpr q))
      refine lv_aload_n hx hb dd_Law_law_33 rfl (lv_at hl 0 rfl) ?_
      refine lv_iload hx hb dd_Law_law_34 (lv_at hl 4 rfl) ?_
      refine lj_ld hx hb hX hbl hS i (by omega) hL dd_Law_law_36 ?_
      refine lv_bipush (v := 15) hx hb dd_Law_law_37 (by decide) ?_
      refine lv_iand hx hb dd_Law_law_39 ?_
      have KK : lj_K lj_JJ p l e s m below meth c D cI cZ cL cQ b ad rw i := by
        intro zp zt zs zj yp yt ys yj ov hJ ls H locs cells slots hc hs hl hP hD hS
        refine lv_iinc (k := 4) (v := nI (i + 9)) (lv' := [(4, .int (nI (i + 9))), (0, .ref b), (1, .ref (ad 0)), (2, .ref (ad 30)), (3, .ref (ad 51))]) hx hb dd_Law_law_1092 hl rfl (nI_add _ 9) (by decide) rfl (fun ls hl => ?_)
        refine lv_goto (tgt := 23) hx hb dd_Law_law_1095 (by decide) ?_
        exact IH (i + 9) (by omega) (by omega) zp zt zs zj yp yt ys yj ov hJ ls H locs cells slots (by omega) (by omega) (lv_sub hl [1, 2, 3, 4, 0] rfl) hP hD hS
      obtain ⟨v, hv, ev⟩ := lj_15 (xs i)
      refine mm_topi ev ?_
      rcases (show v = 0 ∨ v = 1 ∨ v = 2 ∨ v = 3 ∨ v = 4 ∨ v = 5 ∨ v = 6 ∨ v = 7 ∨ v = 8 ∨ v = 9 ∨ v = 10 ∨ v = 11 ∨ v = 12 ∨ v = 13 ∨ v = 14 ∨ v = 15 by omega) with rfl | rfl | rfl | rfl | rfl | rfl | rfl | rfl | rfl | rfl | rfl | rfl | rfl | rfl | rfl | rfl
      · refine lv_tableIn (off := 72) (tgt := 112) hx hb dd_Law_law_40 (by decide) (by decide) (by decide) (by decide) ?_
        exact lj_c0 hnt hC hL hlt hc hs hJ hl hP hD hS KK
      · refine lv_tableIn (off := 108) (tgt := 148) hx hb dd_Law_law_40 (by decide) (by decide) (by decide) (by decide) ?_
        exact lj_c1 hnt hC hL hlt hc hs hJ hl hP hD hS KK
      · refine lv_tableIn (off := 196) (tgt := 236) hx hb dd_Law_law_40 (by decide) (by decide) (by decide) (by decide) ?_
        exact lj_c2 hnt hC hL hlt hc hs hJ hl hP hD hS KK
      · refine lv_tableIn (off := 244) (tgt := 284) hx hb dd_Law_law_40 (by decide) (by decide) (by decide) (by decide) ?_
        exact lj_c3 hnt hC hL hlt hc hs hJ hl hP hD hS KK
      · refine lv_tableIn (off := 348) (tgt := 388) hx hb dd_Law_law_40 (by decide) (by decide) (by decide) (by decide) ?_
        exact lj_c4 hnt hC hL hlt hc hs hJ hl hP hD hS KK
      · refine lv_tableIn (off := 404) (tgt := 444) hx hb dd_Law_law_40 (by decide) (by decide) (by decide) (by decide) ?_
        exact lj_c5 hnt Ha hC hL hlt hc hs hJ hl hP hD hS KK
      · refine lv_tableIn (off := 445) (tgt := 485) hx hb dd_Law_law_40 (by decide) (by decide) (by decide) (by decide) ?_
        exact lj_c6 hnt Ha hC hL hlt hc hs hJ hl hP hD hS KK
      · refine lv_tableIn (off := 501) (tgt := 541) hx hb dd_Law_law_40 (by decide) (by decide) (by decide) (by decide) ?_
        exact lj_c7 hnt Ha hC hL hlt hc hs hJ hl hP hD hS KK
      · refine lv_tableIn (off := 569) (tgt := 609) hx hb dd_Law_law_40 (by decide) (by decide) (by decide) (by decide) ?_
        exact lj_c8 hnt hC hL hlt hc hs hJ hl hP hD hS KK
      · refine lv_tableIn (off := 680) (tgt := 720) hx hb dd_Law_law_40 (by decide) (by decide) (by decide) (by decide) ?_
        exact lj_c9 hnt hC hL hlt hc hs hJ hl hP hD hS KK
      · refine lv_tableIn (off := 764) (tgt := 804) hx hb dd_Law_law_40 (by decide) (by decide) (by decide) (by decide) ?_
        exact lj_c10 hnt hC hL hlt hc hs hJ hl hP hD hS KK
      · refine lv_tableIn (off := 890) (tgt := 930) hx hb dd_Law_law_40 (by decide) (by decide) (by decide) (by decide) ?_
        exact lj_c11 hnt hC hL hlt hc hs hJ hl hP hD hS KK
      · refine lv_tableIn (off := 926) (tgt := 966) hx hb dd_Law_law_40 (by decide) (by decide) (by decide) (by decide) ?_
        exact lj_c12 hnt hC hL hlt hc hs hJ hl hP hD hS KK
      · refine lv_tableIn (off := 1001) (tgt := 1041) hx hb dd_Law_law_40 (by decide) (by decide) (by decide) (by decide) ?_
        exact lj_c13 hnt Hb hC hL hlt hc hs hJ hl hP hD hS KK
      · refine lv_tableOut (tgt := 1092) hx hb dd_Law_law_40 (by decide) (by decide) ?_
        exact KK zp zt zs zj yp yt ys yj ov hJ ls H locs cells slots (by omega) (by omega) hl hP hD hS
      · refine lv_tableOut (tgt := 1092) hx hb dd_Law_law_40 (by decide) (by decide) ?_
        exact KK zp zt zs zj yp yt ys yj ov hJ ls H locs cells slots (by omega) (by omega) hl hP hD hS
/-- the law from its entry: it comes to its end with true, if the two searches agree and the class's own proof holds -/
theorem lj_whole {p : Program} {e : Env} {s : State} {m : MethodId} {below : List Frame} {meth : Method} {c : Code} (l : Launch) (hnt : l.stackTraces = false) (Ha : lj_Ha) (Hb : lj_Hb) {b L : Nat} {xs : Nat → Int32} (hL : L ≤ 4608) (C0 : lw_At p s m meth c b L xs) : W p l e room_1 s m #[Value.ref b] below meth c s.heap [] 0 0 (lw_Z below #[Value.ref b] s) (entryFrame m ([Value.ref b] : List Value).toArray 7) := by
  obtain ⟨hx, hb, hr, hml, hown, hts, hX, hbl, hlocks, hgv⟩ := C0
  have htb := tb_hts hts
  have hcx := lj_cx hts
  obtain ⟨D, cI, cZ, cL, cQ, hK⟩ := lj_Kx htb hcx.2
  have C : lj_C p s m meth c b L xs D cI cZ cL cQ := ⟨hx, hb, hml, hown, htb, hX, hbl, hK, lj_Tr hts hgv⟩
  have hl := lv_entry ([.ref b]) (n := 7) (Nat.le_of_ble_eq_true rfl)
  rw [lg_entry_eq]
  generalize (lg_sl ([Value.ref b]) ++ List.replicate (7 - (lg_sl ([Value.ref b])).length) Slot.unset).toArray = ls at hl ⊢
  have hl : lv_has ls 7 [(0, .ref b)] := hl
  exact lj_entry C hcx hl (fun ad rw zp zt zs zj yp yt ys yj ov hJ ls H locs cells slots hc hs hl hP hD hS => lj_loop hnt Ha Hb C hL hr hlocks 5001 0 (by omega) (by omega) zp zt zs zj yp yt ys yj ov hJ ls H locs cells slots hc hs hl hP hD hS)
