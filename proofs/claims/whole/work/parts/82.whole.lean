set_option maxHeartbeats 8000000 in
set_option maxRecDepth 100000 in
theorem whole_start {p : Program} {e : Env} {s : State} {m : MethodId} {below : List Frame} {meth : Method} {c : Code} (l : Launch) (hflags : l.flags = flags0) {b L : Nat} {xs : Nat → Int32} (hL : L ≤ 3584) (C0 : lw_At p s m meth c b L xs) : W p l e room_1 s m #[Value.ref b] below meth c s.heap [] 0 0 (lw_Z below #[Value.ref b] s) (entryFrame m ([Value.ref b] : List Value).toArray 4) := by
  obtain ⟨hx, hb, hr, hml, hown, hts, hX, hbl, hlocks, hgv⟩ := id C0
  have hg : ∀ w ∈ gTB, w.before #[Value.ref b] s = true := fun w hw => hts w (gTB_good w hw).1
  have hJ : kJ s := st_kJ hts
  obtain ⟨D, hD⟩ := st_cls hg
  obtain ⟨cA, hcA⟩ := st_arr hg hJ.2.2.1 hJ.2.2.2.1 hJ.2.2.2.2
  have hK : va_K D vwCl (gT cA) s := ⟨hD, hcA⟩
  generalize hrb : s.heap.size = rb
  obtain ⟨z, hz⟩ := st_SCJ (A := rA rb 92) hts hgv (fun a ha h => by have := h.1; omega)
  rw [lg_entry_eq]
  generalize hE : ((p, l, e, room_1, s, m, #[Value.ref b], below, meth, c, D, cA, fun k => rb + k, z, 600000, 7302250) : gE) = E
  have had : e_ad E = fun k => rb + k := by subst hE; rfl
  have hgA : ∀ q, gA SL (e_ad E) q ↔ rA rb 92 q := by
    intro q
    rw [had]
    constructor
    · rintro ⟨k, hk, rfl⟩
      have h2 : k < 92 := hk
      exact ⟨by show rb ≤ rb + k; omega, by show rb + k < rb + 92; omega⟩
    · intro h
      have h1 := h.1
      have h2 := h.2
      exact ⟨q - rb, show q - rb < 92 by omega, by show q = rb + (q - rb); omega⟩
  have C : kCx E RL cL_law 4 ret := by subst hE; exact ⟨hx, hb, hml, hown, hg, hr, hlocks, hK⟩
  have G : gCx SL E RL cL_law 4 ret 1000 := by
    have hj : SCJ z (gA SL (e_ad E)) s s.heap := SCJ_narrow hz (fun q h => (hgA q).mp h)
    have hi : gInj SL (e_ad E) := by rw [had]; exact gInj_b rb
    subst hE
    exact ⟨hx, hb, hml, hown, hg, hr, hlocks, hK, hi, hj, SL_ok, Nat.le_of_ble_eq_true rfl, Nat.le_of_ble_eq_true rfl, Nat.le_refl _, Nat.le_refl _⟩
  have hJE : kJ (e_s E) := by subst hE; exact hJ
  have hsz : (e_s E).heap.size = rb := by subst hE; exact hrb
  have hRf : (e_R E).frames = 2048 := by subst hE; rfl
  have hRl : (e_R E).locals = 84000 := by subst hE; rfl
  have hRc : (e_R E).cells = 600000 := by subst hE; rfl
  have hRs : (e_R E).slots = 7302250 := by subst hE; rfl
  have hck : e_ck E = 600000 := by subst hE; rfl
  have hcs : e_cs E = 7302250 := by subst hE; rfl
  have hzE : SCJ (e_z E) (rA rb 92) (e_s E) (e_s E).heap := by subst hE; exact hz
  have hXE : va_X b L xs (e_s E) (e_s E).heap := by subst hE; exact hX
  have hblE : b < (e_s E).heap.size := by subst hE; exact hbl
  have hbA : ¬ gA SL (e_ad E) b := fun h => by
    have h1 := ((hgA b).mp h).1
    omega
  have hEnd : ∀ (L : List (Option Value)) (σ : gS), GW SL E (lw_Z below #[Value.ref b] s) 1421 L [.int 1] σ := by
    intro L σ H locs ls hP hS hl hgz
    have hf : ∀ q ∈ locs, (e_s E).heap.size ≤ q.base := fun q hq => by
      have h1 := ((hgA _).mp (hS.2.2 q hq)).1
      omega
    refine va_forget hf ?_
    clear hP hS hl hgz
    subst hE
    exact lw_ret hx hb hr hlocks dL_law_1421
  have A : AW E 92 rb 0 0 0 (lw_Z below #[Value.ref b] s) 0 [some (.ref b), none, none, none] [] (fun _ => .inr (0, [])) := by
    refine A_new (ci := 10) (fs := [.null, .null, .null, .null, .null, .null, .null, .int 0, .int 0]) (ty := tyX10) C 3 inX10 tyX10_ok w_22 w_23 w_1 rfl (fun j hj => by rcases (show j = 0 ∨ j = 1 ∨ j = 2 ∨ j = 3 ∨ j = 4 ∨ j = 5 ∨ j = 6 ∨ j = 7 ∨ j = 8 by omega) with rfl | rfl | rfl | rfl | rfl | rfl | rfl | rfl | rfl <;> rfl) (by omega) (Or.inr rfl) (by omega) (by omega) dL_law_0 rfl ?_
    show AW E 92 rb 1 1 9 _ 3 [some (.ref b), none, none, none] [.ref (rb + 0)] _
    refine A_dup C 4 dL_law_3 rfl rfl ?_
    refine A_initS (S := SC) (n0 := 0) (st := [.ref (rb + 0)]) C hJE 7 (k_X10_init (e_l E) (e_D E) (e_cA E) (rb + 0) (e_z E)) ⟨w_26, by decide +kernel, by decide +kernel, by decide +kernel, by decide⟩ w_24 w_1 w_25 rfl (by omega) (by omega) (by omega) (by omega) (by decide) (by decide) rfl rfl (Nat.le_of_ble_eq_true rfl) rfl dL_law_4 rfl (fun U H locs hS hU hW => ?_) (fun U g mk a h => SC_ok.2.1 _ _ U _ _ rfl h) (fun σ hC hzC => ?_)
    · rw [hU]
      refine SCJ_narrow (SC_ok.2.2.1 _ _ _ _ _ (SC_ok.1 _ _ _ _ _ hW hzE) hS.2.1) ?_
      rintro q ⟨k, hk, rfl⟩
      have h2 : k < 72 := hk
      exact ⟨by show rb ≤ rb + 0 + k; omega, by show rb + 0 + k < rb + 92; omega⟩
    show AW E 92 rb 72 72 2536 _ 7 [some (.ref b), none, none, none] [.ref (rb + 0)] _
    refine A_astore_n (i := 1) (L' := [some (.ref b), some (.ref (rb + 0)), none, none]) C 8 dL_law_7 rfl rfl (Nat.le_of_ble_eq_true rfl) rfl rfl ?_
    refine A_new (ci := 11) (fs := [.int 0, .null, .null, .null, .null, .null, .int 0, .null, .null, .int 0, .int 0, .int 0, .null, .null, .null, .null, .null, .null, .int 0, .int 0, .int 0, .int 0, .null, .null, .int 0, .int 0, .int 0, .null, .null, .null, .null, .int 0]) (ty := tyX11) C 11 inX11 tyX11_ok w_820 w_821 w_18 rfl (fun j hj => by rcases (show j = 0 ∨ j = 1 ∨ j = 2 ∨ j = 3 ∨ j = 4 ∨ j = 5 ∨ j = 6 ∨ j = 7 ∨ j = 8 ∨ j = 9 ∨ j = 10 ∨ j = 11 ∨ j = 12 ∨ j = 13 ∨ j = 14 ∨ j = 15 ∨ j = 16 ∨ j = 17 ∨ j = 18 ∨ j = 19 ∨ j = 20 ∨ j = 21 ∨ j = 22 ∨ j = 23 ∨ j = 24 ∨ j = 25 ∨ j = 26 ∨ j = 27 ∨ j = 28 ∨ j = 29 ∨ j = 30 ∨ j = 31 by omega) with rfl | rfl | rfl | rfl | rfl | rfl | rfl | rfl | rfl | rfl | rfl | rfl | rfl | rfl | rfl | rfl | rfl | rfl | rfl | rfl | rfl | rfl | rfl | rfl | rfl | rfl | rfl | rfl | rfl | rfl | rfl | rfl <;> rfl) (by omega) (Or.inl (by decide)) (by omega) (by omega) dL_law_8 rfl ?_
    show AW E 92 rb 73 73 2568 _ 11 [some (.ref b), some (.ref (rb + 0)), none, none] [.ref (rb + 72)] _
    refine A_dup C 12 dL_law_11 rfl rfl ?_
    refine A_initS (S := SM) (n0 := 72) (st := [.ref (rb + 72)]) C hJE 15 (k_X11_init (e_l E) (e_D E) (e_cA E) (rb + 72) (e_z E)) ⟨w_824, by decide +kernel, by decide +kernel, by decide +kernel, by decide⟩ w_822 w_18 w_823 rfl (by omega) (by omega) (by omega) (by omega) (by decide) (by decide) rfl rfl (Nat.le_of_ble_eq_true rfl) rfl dL_law_12 rfl (fun U H locs hS hU hW => trivial) (fun U g mk a h => trivial) (fun τ hM hzM => ?_)
    show AW E 92 rb 92 92 4780 _ 15 [some (.ref b), some (.ref (rb + 0)), none, none] [.ref (rb + 72)] _
    refine A_astore_n (i := 2) (L' := [some (.ref b), some (.ref (rb + 0)), some (.ref (rb + 72)), none]) C 16 dL_law_15 rfl rfl (Nat.le_of_ble_eq_true rfl) rfl rfl ?_
    refine A_iconst (v := 0) C 17 dL_law_16 rfl rfl ?_
    refine A_istore_n (i := 3) (L' := [some (.ref b), some (.ref (rb + 0)), some (.ref (rb + 72)), some (.int 0)]) C 18 dL_law_17 rfl rfl (Nat.le_of_ble_eq_true rfl) rfl rfl ?_
    refine A_widen (ck2 := 600000) (cs2 := 7302250) (Nat.le_of_ble_eq_true rfl) (Nat.le_of_ble_eq_true rfl) ?_
    refine A_toG (S := SL) (σ := gcat σ τ) rfl had hck.symm hcs.symm (fun k _ hk H h => ?_) (gz_cat hzC hzM) ?_
    · rw [L_enF] at h
      rw [had]
      exact h
    · have T := law_loop G (by decide) hXE hblE hbA hL hEnd (L + 1) 0 0 tX0 P00 B00 σ τ rfl (Nat.zero_le L) (by omega) hC hM hzC hzM
      rw [had] at T
      exact T
  subst hE
  exact A s.heap [] _ (fun k q hq => absurd (cR_inv hq).1 (Nat.not_lt_zero k)) va_S.rf (show lv_has _ 4 (gl [some (.ref b), none, none, none] 0) from lv_entry [.ref b] (Nat.le_of_ble_eq_true rfl))
set_option maxHeartbeats 4000000 in
theorem lw_walk (l : Launch) (hflags : l.flags = flags0) (b : Addr) (xs : List Int32) : MetFree l x (headSpec (Jvm.Cond.code x code maxLocals ret :: tables_1) room_1) (lw_P b xs) (fun _ _ _ _ _ => True) lw_Q := by
  refine MetFree.of_bodyS (code := code) (maxLocals := maxLocals) (ret := ret) (by decide) ?_ ?_
  · intro args s m h hn
    obtain ⟨meth, c, h1, h2, h3, h4, h5, h6, -, -⟩ := Cond.code_spec hn (atoms_spec (ws := Jvm.Cond.code x code maxLocals ret :: tables_1) h _ List.mem_cons_self)
    exact ⟨meth, c, h1, h2, h3, h4, h5, h6⟩
  · intro p e s m args below meth c s₁ B hml0 hP _
    obtain ⟨rfl, hx, hbd, hgv⟩ := hP
    obtain ⟨scr, harrAt, hlist, hof, hsmall⟩ := hx
    obtain ⟨hcb, hkn, -, -⟩ := State.arrayAt?_spec harrAt
    have hown : s.vm.findClass R_law = some m.cls := findClass_of_methodNamed B.named
    have hts0 : ∀ c ∈ (Jvm.Cond.code x code maxLocals ret :: tables_1), c.before #[Value.ref b] s = true := atoms_spec (ws := Jvm.Cond.code x code maxLocals ret :: tables_1) B.pre
    have hts : ∀ w ∈ lw_tbl, w.before #[Value.ref b] s = true := k2_hts_sels lw_privs (fun w hw => hts0 w (List.mem_cons_of_mem _ hw)) lw_privs_ok
    have hml : c.maxLocals = 4 := B.maxLocals_eq (hts0 _ List.mem_cons_self)
    have X₀ : Stand p l e room_1 s m #[Value.ref b] below meth c s₁ [] 0 0 := Stand.of_body B
    have hh0 : s₁.heap = s.heap := by rw [B.state]; rfl
    have hsz : scr.slots.size = xs.length := by rw [← Array.length_toList, hlist, List.length_map]
    have hval : ∀ j : Nat, j < xs.length → scr.slots[j]? = some (.int (xs.getD j 0)) := fun j hj => by
      rw [← Array.getElem?_toList, hlist]
      simp [hj]
    have hbl : b < s.heap.size := (Array.getElem?_eq_some_iff.mp hcb).1
    have hX : va_X b xs.length (fun j => xs.getD j 0) s s.heap := ⟨scr, hcb, hof, hkn, hsz, hval⟩
    have K : W p l e room_1 s m #[Value.ref b] below meth c s₁.heap [] 0 0 (lw_Z below #[Value.ref b] s) (entryFrame m ([Value.ref b] : List Value).toArray 4) := by
      rw [hh0]
      exact whole_start l hflags hbd ⟨B.exec, B.bytes, B.returns, hml, hown, hts, hX, hbl, B.notSynchronized, hgv⟩
    obtain ⟨t, a1, o, b1, b2, b3⟩ := K s₁ rfl X₀
    exact ⟨t, o, a1, b1, b2, b3⟩
theorem lw_pre_spec {args : Array Value} {s : State} (h : (Jvm.Cond.and given_1 narrow_1).before args s = true) (hr : rest_1_c.before args s = true) : ∃ (b : Addr) (xs : List Int32), lw_P b xs args s := by
  have hs := flat_of_before _ h
  have hq := flat_of_before _ hr
  have hc : (Cond.count 1).before args s = true := hs _ (by decide +kernel)
  have harr : (Cond.arrayOf (.arg 0) .int).before args s = true := hs _ (by decide +kernel)
  have hle : (Cond.le (.length (.arg 0)) (.int 3584)).before args s = true := hs _ (by decide +kernel)
  have hlen : (Cond.isInt (.length (.arg 0))).before args s = true := hq _ (by decide +kernel)
  have hall : (Cond.all (.arg 0) (.isInt (.elem (.arg 0) (.index 0)))).before args s = true := hq _ (by decide +kernel)
  obtain ⟨b, xs, hb, hx⟩ := State.ints_of_pre rfl harr hlen hall
  have hsm : xs.length < 2 ^ 31 := hx.choose_spec.2.2.2
  have hev : (Term.length (.arg 0)).eval args s none [] s = some (.int xs.length.toInt32) := hx.length_eval hb
  have hv := Cond.le_ints hev (show (Term.int 3584).eval args s none [] s = some (.int 3584) from rfl)
  have hd : xs.length.toInt32 ≤ 3584 := by
    simpa [Cond.before, Cond.holds, hv] using hle
  have hN : xs.length ≤ 3584 := (Int32.ofNat_le_ofNat hsm (by decide)).mp (show Int32.ofNat xs.length ≤ Int32.ofNat 3584 from hd)
  exact ⟨b, xs, Cond.one_arg hc (show args[0]? = some (.ref b) from hb), hx, hN, h⟩
theorem lw_comes (l : Launch) (hflags : l.flags = flags0) : Comes l x (Jvm.Cond.code x code maxLocals ret :: tables_1) room_1 (fun tb e args s => Calls_1 tb e args s ∧ rest_1 tb e args s ∧ Pre_1 tb e args s)
    (fun _ _ args s o t => lw_Q args s o t) := by
  intro p e ha hc hk s m args below hf hfit hheap happ hpre
  obtain ⟨b, xs, hP⟩ := lw_pre_spec hpre.2.2 hpre.2.1
  obtain ⟨k, o, h1, h2, h3, hQ⟩ := lw_walk l hflags b xs p e ha hc hk s m args below hf ((Spec.applies_iff_loose hf).mp happ).1 hP trivial
  exact ⟨k, o, h1, h2, h3, hQ⟩
theorem lw_frame {s t : State} {o : Outcome} {args : Array Value} (h : Framed s o t [] 600000 7302250) :
    Framed s o t (fieldLocs frame_1_writes args s ++ arrayLocs frame_1_arrays args s ++ staticLocs frame_1_statics s) 600000 7302250 := h
theorem lw_limb (L : Cond) (hL : ∀ (args : Array Value) (s t : State), L.after args s (.returned (some (.int 1))) t = true) :
    ArmFor flags0 classFile x code maxLocals ret World_1 tables_1 room_1 Calls_1 rest_1 Pre_1
      (fun tb e a s o t => postC L tb e a s o t ∧ Framed s o t (fieldLocs frame_1_writes a s ++ arrayLocs frame_1_arrays a s ++ staticLocs frame_1_statics s) 600000 7302250) := by
  intro l hflags _ _ p e ha hc hk s m args below hf hfit hheap happ hpre
  obtain ⟨k, o, h1, h2, h3, rfl, hF⟩ := lw_comes l hflags p e ha hc hk s m args below hf hfit hheap happ hpre
  exact ⟨k, _, h1, h2, h3, hL args s _, lw_frame hF⟩
theorem i_vc : Claimed_1_1 ∧ Claimed_1_2 := ⟨lw_limb limb_1_1 (fun args s t => by simp [limb_1_1, Cond.after, Cond.holds, Cond.value]), lw_limb limb_1_2 (fun args s t => Cond.after_iff.mpr (by
  first | (rw [show limb_1_2 = Cond.eq .result (.int 1) from rfl, Cond.eq_ints (x := 1) (y := 1) rfl rfl]; simp; done) | (simp [limb_1_2, Cond.value, Term.eval]; done)))⟩
