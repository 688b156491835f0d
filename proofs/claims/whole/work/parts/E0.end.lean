/-! What the start gives. -/
theorem tb_l {b : Nat} {s : State} (hts : ∀ w ∈ lw_tbl, w.before #[Value.ref b] s = true) : ∀ w ∈ tbG, w.before #[Value.ref b] s = true := fun w hw => hts w (List.mem_filter.mp hw).1
theorem start_K {s : State} {args : Array Value} (hts : ∀ w ∈ tbG, w.before args s = true) (hA : AOK s) : ∃ (D : va_G) (cA : Nat → ClassId), va_K D vwCl (tysL cA) s := by
  obtain ⟨c0, i0, h0⟩ := u_known (C := RX0) (T := TX0) (N := 10) (n := 10) hts inX0 (hts _ (tbG_at 250 (by decide +kernel) (by decide +kernel)))
  obtain ⟨c1, i1, h1⟩ := u_known (C := RX1) (T := TX1) (N := 7) (n := 7) hts inX1 (hts _ (tbG_at 92 (by decide +kernel) (by decide +kernel)))
  obtain ⟨c2, i2, h2⟩ := u_known (C := RX2) (T := TX2) (N := 5) (n := 5) hts inX2 (hts _ (tbG_at 331 (by decide +kernel) (by decide +kernel)))
  obtain ⟨c3, i3, h3⟩ := u_known (C := RX3) (T := TX3) (N := 19) (n := 19) hts inX3 (hts _ (tbG_at 201 (by decide +kernel) (by decide +kernel)))
  obtain ⟨c4, i4, h4⟩ := u_known (C := RX4) (T := TX4) (N := 9) (n := 9) hts inX4 (hts _ (tbG_at 353 (by decide +kernel) (by decide +kernel)))
  obtain ⟨c5, i5, h5⟩ := u_known (C := RX5) (T := TX5) (N := 2) (n := 2) hts inX5 (hts _ (tbG_at 207 (by decide +kernel) (by decide +kernel)))
  obtain ⟨c6, i6, h6⟩ := u_known (C := RX6) (T := TX6) (N := 5) (n := 5) hts inX6 (hts _ (tbG_at 222 (by decide +kernel) (by decide +kernel)))
  obtain ⟨c7, i7, h7⟩ := u_known (C := RX7) (T := TX7) (N := 5) (n := 5) hts inX7 (hts _ (tbG_at 172 (by decide +kernel) (by decide +kernel)))
  obtain ⟨c8, i8, h8⟩ := u_known (C := RX8) (T := TX8) (N := 8) (n := 8) hts inX8 (hts _ (tbG_at 532 (by decide +kernel) (by decide +kernel)))
  obtain ⟨c9, i9, h9⟩ := u_known (C := RX9) (T := TX9) (N := 4) (n := 4) hts inX9 (hts _ (tbG_at 310 (by decide +kernel) (by decide +kernel)))
  obtain ⟨c10, i10, h10⟩ := u_known (C := RX10) (T := TX10) (N := 8) (n := 8) hts inX10 (hts _ (tbG_at 407 (by decide +kernel) (by decide +kernel)))
  obtain ⟨c11, i11, h11⟩ := u_known (C := RX11) (T := TX11) (N := 4) (n := 4) hts inX11 (hts _ (tbG_at 84 (by decide +kernel) (by decide +kernel)))
  obtain ⟨c12, i12, h12⟩ := u_known (C := RX12) (T := TX12) (N := 65) (n := 65) hts inX12 (hts _ (tbG_at 1152 (by decide +kernel) (by decide +kernel)))
  obtain ⟨a20, k20, p20, f20, g20, e20⟩ := Cond.arrayClass_spec (hts (.arrayClass .int) (tbG_at 169 (by decide +kernel) (by decide +kernel)))
  obtain ⟨a21, k21, p21, f21, g21, e21⟩ := Cond.arrayClass_spec (hts (.arrayClass .long) (tbG_at 1361 (by decide +kernel) (by decide +kernel)))
  obtain ⟨a22, k22, p22, f22, g22, e22⟩ := Cond.arrayClass_spec (hts (.arrayClass .boolean) (tbG_at 199 (by decide +kernel) (by decide +kernel)))
  obtain ⟨a23, k23, p23, f23, g23, e23⟩ := Cond.arrayClass_spec (hts (.arrayClass .byte) (tbG_at 567 (by decide +kernel) (by decide +kernel)))
  obtain ⟨p24, a24, k24, n24, -, g24, e24, f24⟩ := Cond.arrayOver_spec (hA "FarCells$Page" (by decide))
  obtain ⟨p25, a25, k25, n25, -, g25, e25, f25⟩ := Cond.arrayOver_spec (hA "FarCells$Script" (by decide))
  obtain ⟨p26, a26, k26, n26, -, g26, e26, f26⟩ := Cond.arrayOver_spec (hA "FarCells$Shelf" (by decide))
  obtain ⟨p27, a27, k27, n27, -, g27, e27, f27⟩ := Cond.arrayOver_spec (hA "FarCells$Worker" (by decide))
  refine ⟨(fun c => match c with | 0 => c0 | 1 => c1 | 2 => c2 | 3 => c3 | 4 => c4 | 5 => c5 | 6 => c6 | 7 => c7 | 8 => c8 | 9 => c9 | 10 => c10 | 11 => c11 | _ => c12, fun c => match c with | 0 => i0 | 1 => i1 | 2 => i2 | 3 => i3 | 4 => i4 | 5 => i5 | 6 => i6 | 7 => i7 | 8 => i8 | 9 => i9 | 10 => i10 | 11 => i11 | _ => i12), fun c => match c with | 20 => a20 | 21 => a21 | 22 => a22 | 23 => a23 | 24 => a24 | 25 => a25 | 26 => a26 | _ => a27, fun c q hc => ?_, fun k q hk => ?_⟩
  · have hl : c < 13 := (List.getElem?_eq_some_iff.mp hc).1
    have h13 : c = 0 ∨ c = 1 ∨ c = 2 ∨ c = 3 ∨ c = 4 ∨ c = 5 ∨ c = 6 ∨ c = 7 ∨ c = 8 ∨ c = 9 ∨ c = 10 ∨ c = 11 ∨ c = 12 := by omega
    rcases h13 with rfl | rfl | rfl | rfl | rfl | rfl | rfl | rfl | rfl | rfl | rfl | rfl | rfl
    · obtain rfl : (RX0, TX0, 10) = q := Option.some.inj hc
      exact h0
    · obtain rfl : (RX1, TX1, 7) = q := Option.some.inj hc
      exact h1
    · obtain rfl : (RX2, TX2, 5) = q := Option.some.inj hc
      exact h2
    · obtain rfl : (RX3, TX3, 19) = q := Option.some.inj hc
      exact h3
    · obtain rfl : (RX4, TX4, 9) = q := Option.some.inj hc
      exact h4
    · obtain rfl : (RX5, TX5, 2) = q := Option.some.inj hc
      exact h5
    · obtain rfl : (RX6, TX6, 5) = q := Option.some.inj hc
      exact h6
    · obtain rfl : (RX7, TX7, 5) = q := Option.some.inj hc
      exact h7
    · obtain rfl : (RX8, TX8, 8) = q := Option.some.inj hc
      exact h8
    · obtain rfl : (RX9, TX9, 4) = q := Option.some.inj hc
      exact h9
    · obtain rfl : (RX10, TX10, 8) = q := Option.some.inj hc
      exact h10
    · obtain rfl : (RX11, TX11, 4) = q := Option.some.inj hc
      exact h11
    · obtain rfl : (RX12, TX12, 65) = q := Option.some.inj hc
      exact h12
  · have hl : k < 8 := (List.getElem?_eq_some_iff.mp hk).1
    have h8 : k = 0 ∨ k = 1 ∨ k = 2 ∨ k = 3 ∨ k = 4 ∨ k = 5 ∨ k = 6 ∨ k = 7 := by omega
    rcases h8 with rfl | rfl | rfl | rfl | rfl | rfl | rfl | rfl
    · obtain rfl := Option.some.inj hk
      exact ⟨fun n z => ⟨fun k h => (by cases h), k20, g20, p20, e20⟩, f20⟩
    · obtain rfl := Option.some.inj hk
      exact ⟨fun n z => ⟨fun k h => (by cases h), k21, g21, p21, e21⟩, f21⟩
    · obtain rfl := Option.some.inj hk
      exact ⟨fun n z => ⟨fun k h => (by cases h), k22, g22, p22, e22⟩, f22⟩
    · obtain rfl := Option.some.inj hk
      exact ⟨fun n z => ⟨fun k h => (by cases h), k23, g23, p23, e23⟩, f23⟩
    · obtain rfl := Option.some.inj hk
      exact ⟨fun n z => ⟨fun k h => (by cases h), k24, g24, p24, e24⟩, k24, p24, g24, e24, n24, f24⟩
    · obtain rfl := Option.some.inj hk
      exact ⟨fun n z => ⟨fun k h => (by cases h), k25, g25, p25, e25⟩, k25, p25, g25, e25, n25, f25⟩
    · obtain rfl := Option.some.inj hk
      exact ⟨fun n z => ⟨fun k h => (by cases h), k26, g26, p26, e26⟩, k26, p26, g26, e26, n26, f26⟩
    · obtain rfl := Option.some.inj hk
      exact ⟨fun n z => ⟨fun k h => (by cases h), k27, g27, p27, e27⟩, k27, p27, g27, e27, n27, f27⟩
theorem start_A {s : State} {b : Nat} (hts : ∀ w ∈ lw_tbl, w.before #[Value.ref b] s = true) : AOK s := by
  intro C hC
  simp only [aoL, List.mem_cons, List.not_mem_nil, or_false] at hC
  rcases hC with rfl | rfl | rfl | rfl
  · exact va_AO.of (hts (.arrayOver (.object "FarCells$Script")) (List.mem_of_getElem? (i := 171) (by decide +kernel)))
  · exact va_AO.of (hts (.arrayOver (.object "FarCells$Page")) (List.mem_of_getElem? (i := 306) (by decide +kernel)))
  · exact va_AO.of (hts (.arrayOver (.object "FarCells$Worker")) (List.mem_of_getElem? (i := 308) (by decide +kernel)))
  · exact va_AO.of (hts (.arrayOver (.object "FarCells$Shelf")) (List.mem_of_getElem? (i := 531) (by decide +kernel)))
theorem nest_tbl : ∀ q ∈ nestL, Cond.methodLinkNest q.1 q.2.1 q.2.2.1 q.2.2.2 ∈ lw_tbl := by decide +kernel
theorem start_N {s : State} {b : Nat} (hts : ∀ w ∈ lw_tbl, w.before #[Value.ref b] s = true) : NsK s := fun q hq => va_Nw.of rfl (hts _ (nest_tbl q hq))
theorem dc_tbl : ∀ x ∈ dcX, Cond.declares x ∈ lw_tbl := by decide +kernel
theorem st_tbl : ∀ q ∈ strX, Cond.stringRef q.1 q.2.1 q.2.2 ∈ lw_tbl := by decide +kernel
theorem start_T {s : State} {b : Nat} {D : va_G} {cA : Nat → ClassId} (hts : ∀ w ∈ lw_tbl, w.before #[Value.ref b] s = true) (hK : va_K D vwCl (tysL cA) s) (hg : (Jvm.Cond.and given_1 narrow_1).before #[Value.ref b] s = true) : TK s.heap.size s := by
  have hs := flat_of_before _ hg
  refine ⟨fun x hx => va_Nw.of rfl (hts _ (dc_tbl x hx)), va_Nw.of rfl (hts (.castable xIA xIA) (List.mem_of_getElem? (i := 1118) (by decide +kernel))), va_Nw.of rfl (hts (.castable xIS xIS) (List.mem_of_getElem? (i := 1041) (by decide +kernel))), va_Nc.of (hs (.not (.castable xIS xIA)) (by decide +kernel)), ?_, ?_, fun q hq => ?_⟩
  · exact vx_Zqof (hts (.laysStatic Bundle.tN "UNASSIGNED_STACK" Bundle.steD) (List.mem_of_getElem? (i := 1066) (by decide +kernel))) (hts (.initialized Bundle.tN) (List.mem_of_getElem? (i := 77) (by decide +kernel))) (hs (.isRef (.static Bundle.tN "UNASSIGNED_STACK" Bundle.steD)) (by decide +kernel)) (fun a ha => Nat.not_le.mpr ha)
  · exact vx_Zqof (hts (.laysStatic Bundle.tN "SUPPRESSED_SENTINEL" Bundle.listD) (List.mem_of_getElem? (i := 1068) (by decide +kernel))) (hts (.initialized Bundle.tN) (List.mem_of_getElem? (i := 77) (by decide +kernel))) (hs (.isRef (.static Bundle.tN "SUPPRESSED_SENTINEL" Bundle.listD)) (by decide +kernel)) (fun a ha => Nat.not_le.mpr ha)
  · have hw := hts _ (st_tbl q hq)
    have hc : ∃ cur, s.vm.findClass q.1 = some cur := by
      have hm : q.1 = RX8 ∨ q.1 = RX11 := by
        simp only [strX, List.mem_cons, List.not_mem_nil, or_false] at hq
        rcases hq with rfl | rfl | rfl | rfl | rfl
        · exact Or.inl rfl
        all_goals exact Or.inr rfl
      rcases hm with h | h
      · rw [h]; exact ⟨_, (hK.1 8 _ rfl).2.1⟩
      · rw [h]; exact ⟨_, (hK.1 11 _ rfl).2.1⟩
    obtain ⟨cur, hcur⟩ := hc
    obtain ⟨_, _, _, a, -, -, -, -, -, hev⟩ := Cond.stringRef_spec hcur hw
    exact ⟨a, vk_R.of hw hev⟩
theorem whole_start {p : Program} {e : Env} {s : State} {m : MethodId} {below : List Frame} {meth : Method} {c : Code} (l : Launch) (hst : l.stackTraces = false) {b L : Nat} {xs : Nat → Int32} (hL : L ≤ 3075) (C0 : lw_At p s m meth c b L xs) : W p l e room_1 s m #[Value.ref b] below meth c s.heap [] 0 0 (lw_Z below #[Value.ref b] s) (entryFrame m ([Value.ref b] : List Value).toArray 8) := by
  obtain ⟨hx, hb, hret, hml, hown, hts, hX, hbl, hlocks, hgv⟩ := C0
  have hA := start_A hts
  obtain ⟨D, cA, hK⟩ := start_K (tb_l hts) hA
  have hT := start_T hts hK hgv
  have hh := lv_entry [Value.ref b] (n := 8) (Nat.le_of_ble_eq_true rfl)
  rw [lg_entry_eq]
  refine lw_pre hL s.heap.size b D cA p l e s m _ below meth c s.heap [] _ ⟨hx, hb, hml, hown, hret, hlocks, tb_l hts, hK, start_N hts⟩ ⟨rfl, rfl, hX, hbl, hst, hT, hA⟩ (fun k q hk => ?_) va_S.rf ⟨hh.1, hh.2.1, fun i v hi => ?_⟩
  · exact absurd hk (by show ¬ ([] : va_W)[k]? = some q; simp)
  · match i, hi with
    | 0, hi => cases hi; rfl
    | 1, hi => cases hi
    | 2, hi => cases hi
    | 3, hi => cases hi
    | 4, hi => cases hi
    | 5, hi => cases hi
    | 6, hi => cases hi
    | 7, hi => cases hi
    | _ + 8, hi => cases hi
set_option maxHeartbeats 4000000 in
theorem lw_walk (l : Launch) (hst : l.stackTraces = false) (b : Addr) (xs : List Int32) : MetFree l x (headSpec (Jvm.Cond.code x code maxLocals ret :: tables_1) room_1) (lw_P b xs) (fun _ _ _ _ _ => True) lw_Q := by
  refine MetFree.of_bodyS (code := code) (maxLocals := maxLocals) (ret := ret) (by decide) ?_ ?_
  · intro args s m h hn
    obtain ⟨meth, c, h1, h2, h3, h4, h5, h6, -, -⟩ := Cond.code_spec hn (atoms_spec (ws := Jvm.Cond.code x code maxLocals ret :: tables_1) h _ List.mem_cons_self)
    exact ⟨meth, c, h1, h2, h3, h4, h5, h6⟩
  · intro p e s m args below meth c s₁ B hml0 hP _
    obtain ⟨rfl, hx, hbd, hgv⟩ := hP
    obtain ⟨scr, harrAt, hlist, hof, hsmall⟩ := hx
    obtain ⟨hcb, hkn, -, -⟩ := State.arrayAt?_spec harrAt
    have hown : s.vm.findClass R_law = some m.cls := findClass_of_methodNamed B.named
    have hts0 : ∀ c ∈ (Jvm.Cond.code x code maxLocals ret :: tables_1), c.before #[Value.ref b] s = true := atoms_spec (ws := Jvm.Cond.code x code maxLocals ret :: tables_1) B.pre
    have hts : ∀ w ∈ lw_tbl, w.before #[Value.ref b] s = true := k2_hts_sels lw_privs (fun w hw => hts0 w (List.mem_cons_of_mem _ hw)) lw_privs_ok
    have hml : c.maxLocals = 8 := B.maxLocals_eq (hts0 _ List.mem_cons_self)
    have X₀ : Stand p l e room_1 s m #[Value.ref b] below meth c s₁ [] 0 0 := Stand.of_body B
    have hh0 : s₁.heap = s.heap := by rw [B.state]; rfl
    have hsz : scr.slots.size = xs.length := by rw [← Array.length_toList, hlist, List.length_map]
    have hval : ∀ j : Nat, j < xs.length → scr.slots[j]? = some (.int (xs.getD j 0)) := fun j hj => by
      rw [← Array.getElem?_toList, hlist]
      simp [hj]
    have hbl : b < s.heap.size := (Array.getElem?_eq_some_iff.mp hcb).1
    have hX : va_X b xs.length (fun j => xs.getD j 0) s s.heap := ⟨scr, hcb, hof, hkn, hsz, hval⟩
    have K : W p l e room_1 s m #[Value.ref b] below meth c s₁.heap [] 0 0 (lw_Z below #[Value.ref b] s) (entryFrame m ([Value.ref b] : List Value).toArray 8) := by
      rw [hh0]
      exact whole_start l hst hbd ⟨B.exec, B.bytes, B.returns, hml, hown, hts, hX, hbl, B.notSynchronized, hgv⟩
    obtain ⟨t, a1, o, b1, b2, b3⟩ := K s₁ rfl X₀
    exact ⟨t, o, a1, b1, b2, b3⟩
theorem lw_pre_spec {args : Array Value} {s : State} (h : (Jvm.Cond.and given_1 narrow_1).before args s = true) (hr : rest_1_c.before args s = true) : ∃ (b : Addr) (xs : List Int32), lw_P b xs args s := by
  have hs := flat_of_before _ h
  have hq := flat_of_before _ hr
  have hc : (Cond.count 1).before args s = true := hs _ (by decide +kernel)
  have harr : (Cond.arrayOf (.arg 0) .int).before args s = true := hs _ (by decide +kernel)
  have hle : (Cond.le (.length (.arg 0)) (.int 3075)).before args s = true := hs _ (by decide +kernel)
  have hlen : (Cond.isInt (.length (.arg 0))).before args s = true := hq _ (by decide +kernel)
  have hall : (Cond.all (.arg 0) (.isInt (.elem (.arg 0) (.index 0)))).before args s = true := hq _ (by decide +kernel)
  obtain ⟨b, xs, hb, hx⟩ := State.ints_of_pre rfl harr hlen hall
  have hsm : xs.length < 2 ^ 31 := hx.choose_spec.2.2.2
  have hev : (Term.length (.arg 0)).eval args s none [] s = some (.int xs.length.toInt32) := hx.length_eval hb
  have hv := Cond.le_ints hev (show (Term.int 3075).eval args s none [] s = some (.int 3075) from rfl)
  have hd : xs.length.toInt32 ≤ 3075 := by
    simpa [Cond.before, Cond.holds, hv] using hle
  have hN : xs.length ≤ 3075 := (Int32.ofNat_le_ofNat hsm (by decide)).mp (show Int32.ofNat xs.length ≤ Int32.ofNat 3075 from hd)
  exact ⟨b, xs, Cond.one_arg hc (show args[0]? = some (.ref b) from hb), hx, hN, h⟩
theorem lw_comes (l : Launch) (hst : l.stackTraces = false) : Comes l x (Jvm.Cond.code x code maxLocals ret :: tables_1) room_1 (fun tb e args s => Calls_1 tb e args s ∧ rest_1 tb e args s ∧ Pre_1 tb e args s)
    (fun _ _ args s o t => lw_Q args s o t) := by
  intro p e ha hc hk s m args below hf hfit hheap happ hpre
  obtain ⟨b, xs, hP⟩ := lw_pre_spec hpre.2.2 hpre.2.1
  obtain ⟨k, o, h1, h2, h3, hQ⟩ := lw_walk l hst b xs p e ha hc hk s m args below hf ((Spec.applies_iff_loose hf).mp happ).1 hP trivial
  exact ⟨k, o, h1, h2, h3, hQ⟩
theorem lw_frame {s t : State} {o : Outcome} {args : Array Value} (h : Framed s o t [] 601024 7293000) :
    Framed s o t (fieldLocs frame_1_writes args s ++ arrayLocs frame_1_arrays args s ++ staticLocs frame_1_statics s) 601024 7293000 := h
theorem lw_limb (L : Cond) (hL : ∀ (args : Array Value) (s t : State), L.after args s (.returned (some (.int 1))) t = true) :
    ArmFor flags0 classFile x code maxLocals ret World_1 tables_1 room_1 Calls_1 rest_1 Pre_1
      (fun tb e a s o t => postC L tb e a s o t ∧ Framed s o t (fieldLocs frame_1_writes a s ++ arrayLocs frame_1_arrays a s ++ staticLocs frame_1_statics s) 601024 7293000) := by
  intro l h1 h2 h3 p e ha hc hk s m args below hf hfit hheap happ hpre
  have hst : l.stackTraces = false := by
    unfold Launch.stackTraces
    first | rw [h1] | rw [h2] | rw [h3]
    decide
  obtain ⟨k, o, h1, h2, h3, rfl, hF⟩ := lw_comes l hst p e ha hc hk s m args below hf hfit hheap happ hpre
  exact ⟨k, _, h1, h2, h3, hL args s _, lw_frame hF⟩
theorem i_vc : Claimed_1_1 ∧ Claimed_1_2 := ⟨lw_limb limb_1_1 (fun args s t => by simp [limb_1_1, Cond.after, Cond.holds, Cond.value]), lw_limb limb_1_2 (fun args s t => Cond.after_iff.mpr (by
  first | (rw [show limb_1_2 = Cond.eq .result (.int 1) from rfl, Cond.eq_ints (x := 1) (y := 1) rfl rfl]; simp; done) | (simp [limb_1_2, Cond.value, Term.eval]; done)))⟩
