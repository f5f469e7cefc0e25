def R_law : String := "CrierOfBoroughLaw"
def lw_P (b : Addr) (xs : List Int32) (args : Array Value) (s : State) : Prop := args = #[.ref b] ∧ s.IntsAt b xs ∧ xs.length ≤ 3584 ∧ (Jvm.Cond.and given_1 narrow_1).before args s = true
def lw_Q (_ : Array Value) (s : State) (o : Outcome) (t : State) : Prop := o = .returned (some (.int 1)) ∧ Framed s o t [] 600000 7302250
def lw_Z (below : List Frame) (a : Array Value) (s : State) : State → Prop := fun t => ∃ o, t.status = .running ∧ Ended t below o ∧ lw_Q a s o t
theorem lw_ret {p : Program} {l : Launch} {e : Env} {s : State} {m : MethodId} {below : List Frame} {meth : Method} {c : Code} {b : Nat} (hx : p.tables.exec = Jvm.exec) (hb : c.code = code) (hr : meth.sig.returnType = ret) (hlocks : meth.locks = false) {pc : Nat} {H : Heap} {ls : Array Slot} (hdg : decode code pc = .ok (.ireturn, 1)) : W p l e room_1 s m #[Value.ref b] below meth c H [] 600000 7302250 (lw_Z below #[Value.ref b] s) (F0 m pc ls [.int 1]) := by
  intro T hT X
  obtain ⟨fs, hret, hrun, hended, hW, hframe⟩ := X.leave (v := some (.int 1)) (hlocks := hlocks) (fun h => by rw [hr] at h; cases h)
  have hmeth' : T.vm.method? m = some meth := X.method'
  refine ⟨T.setFrames fs, ?_, .returned (some (.int 1)), hrun, hended, rfl, ⟨_, rfl⟩, hW, hframe⟩
  jvm_step X.here [X.here.top, hx, hb, hdg, hmeth', hr, ret, narrow_b1]
  (try refine ⟨rfl, ?_⟩); (try refine ⟨rfl, ?_⟩)
  first | (intro acts; rw [hret _ acts rfl rfl rfl]) | rw [hret _ _ rfl rfl rfl]
  exact Steps.refl _
def lw_At (p : Program) (s : State) (m : MethodId) (meth : Method) (c : Code) (b L : Nat) (xs : Nat → Int32) : Prop :=
  p.tables.exec = Jvm.exec ∧ c.code = code ∧ meth.sig.returnType = ret ∧ c.maxLocals = 4 ∧ s.vm.findClass R_law = some m.cls ∧ (∀ w ∈ lw_tbl, w.before #[Value.ref b] s = true) ∧ va_X b L xs s s.heap ∧ b < s.heap.size ∧ meth.locks = false ∧ (Jvm.Cond.and given_1 narrow_1).before #[Value.ref b] s = true
theorem A_initS {S : gSd} {E : gE} {own : String} {cc : ByteArray} {nL : Nat} {ret : Option FieldType} {N b ck cs : Nat} {Q : State → Prop} {pc : Nat} {L : List (Option Value)} {st st0 : List Value} {en : Nat → va_E} {P : gS → Prop} {J : State → Prop} (C : kCx E own cc nL ret) (hJ : kJ (e_s E)) (pc' : Nat) {idx n0 d' lo' nL' ck' cs' : Nat} {y : MethodName} {cc' : ByteArray} {e0 : va_E} (M : Met (e_l E) y (.code y cc' nL' none :: gTB) { frames := d', cells := ck', slots := cs', locals := lo' } (va_Pc [.ref (b + n0)] (kPre e0 (e_D E) (e_cA E) (b + n0) J)) (gQv S P (e_D E) (e_cA E) (fun k => b + n0 + k)) ck' cs' (gA S (fun k => b + n0 + k))) (Kc : gKc y cc' nL' none 0) (hlk : Cond.methodLink own idx y ∈ gTB) (hini : Cond.initialized y.cls ∈ gTB) (hin : Cond.instanceMethod y ∈ gTB) (hname : y.name = "<init>") (hR : d' + 1 ≤ (e_R E).frames ∧ 8 + (nL' + 11) + lo' ≤ (e_R E).locals) (hck : ck + ck' ≤ (e_R E).cells) (hcs : cs + cs' ≤ (e_R E).slots) (hsz : (e_s E).heap.size + ck = b + (n0 + 1)) (hN : n0 + S.1 ≤ N) (hN1 : 1 ≤ S.1) (he : en n0 = e0)
    (hst : st0 = .ref (b + n0) :: st) (hW : (st.map fun v => v.category).sum ≤ 8) (hL : L.length = nL) (hd : decode cc pc = .ok (.invokespecial idx, 3)) (hp : pc + 3 = pc') (hJJ : ∀ (U : State) (H : Heap) (locs : List Loc), va_S (rA b N) (e_s E).heap H locs → U.heap = H → State.WarmedH (e_s E) U.vm → J U) (hJb : ∀ (U : State) (g : JFrame) (mk : MethodId) (a : Array Value), J U → J (U.calling g mk a)) (kk : ∀ σ', P σ' → gz S σ' → AW E N b (n0 + S.1) (ck + ck') (cs + cs') Q pc' L st (e_ct en n0 (S.2.2.1 (e_cA E) (fun k => b + n0 + k) σ'))) : AW E N b (n0 + 1) ck cs Q pc L st0 en := by
  subst hp
  intro H locs ls hP hS hl
  refine AW_sz hP hS hsz (Or.inl (by omega)) (fun hz => ?_)
  obtain ⟨c1, c2, c3, c4, c5⟩ := Kc
  have hg : GoodIn gTB (.code y cc' nL' none :: gTB) := by
    refine gTB_in fun w hw => ?_
    simp only [List.mem_cons] at hw
    rcases hw with rfl | h <;> assumption
  have hsub : ∀ q, gA S (fun k => b + n0 + k) q → rA b N q := by
    rintro q ⟨k, hk, rfl⟩
    exact ⟨by show b ≤ b + n0 + k; omega, by show b + n0 + k < b + N; omega⟩
  refine va_callv (va_runI (As := []) (rest := st) ⟨C.1, C.2.1, C.2.2.1, C.2.2.2.1, C.2.2.2.2.1⟩ M (cwI 0 C.2.2.2.2.1 hg rfl rfl rfl (C.2.2.2.2.1 _ hini) (C.2.2.2.2.1 _ hlk) (C.2.2.2.2.1 _ hin) hname ⟨c2, c3, c4⟩ hR) ⟨fun a U g mk h => ?_, fun U hU hWU => ⟨rfl, ?_, ?_, va_K.moved hWU.alike C.2.2.2.2.2.2.2, hJ.warm hWU, hJJ U H locs hS hU hWU⟩⟩ rfl rfl (hl.1.trans hL) hst (lv_room hW) hd ⟨hck, hcs⟩) hS (fun q _ h => hsub q h) hsub (fun u t H1 locs1 ht hvm hpost hB hsz1 hk1 hS1 => ?_)
  · obtain ⟨h1, h2, h3, h4, h5, h6⟩ := h
    exact ⟨h1, h2, h3, va_K.moved (u := U) (U := U.calling g mk a) (Vm.Alike.refl U.vm) h4, kJ.same (u := U) (U := U.calling g mk a) rfl h5, hJb U g mk a h6⟩
  · rw [hU, hz]
    omega
  · rw [hU, ← he]
    exact A_one (hP n0 _ (cR_at (by omega)))
  · refine kk u hpost hB.2.2 H1 locs1 ls ?_ hS1 hl
    have hB1 := hB.1
    rw [ht] at hB1
    intro k q hq
    obtain ⟨hk, rfl⟩ := cR_inv hq
    by_cases hkn : k < n0
    · show va_at (e_D E) vwCl (b + k, if k < n0 then en k else _) H1
      rw [if_pos hkn]
      refine (hP k _ (cR_at (by omega))).kept (hk1 (b + k) (by omega) (fun z => ?_))
      obtain ⟨i, hi, e⟩ := z
      have e2 : b + k = b + n0 + i := e
      omega
    · show va_at (e_D E) vwCl (b + k, if k < n0 then en k else S.2.2.1 (e_cA E) (fun k => b + n0 + k) u (k - n0)) H1
      rw [if_neg hkn]
      have h2 := hB1 (k - n0) _ (gPic_at (S := S) (by omega))
      rw [show b + k = b + n0 + (k - n0) by omega]
      exact h2
theorem A_widen {E : gE} {N b n ck cs ck2 cs2 : Nat} {Q : State → Prop} {pc : Nat} {L : List (Option Value)} {st : List Value} {en : Nat → va_E} (h1 : ck ≤ ck2) (h2 : cs ≤ cs2) (k : AW E N b n ck2 cs2 Q pc L st en) : AW E N b n ck cs Q pc L st en := fun H locs ls hP hS hl => W.widen h1 h2 (k H locs ls hP hS hl)
theorem L_enF {cA : Nat → ClassId} {rb : Nat} {σ τ : gS} {en0 : Nat → va_E} {x y : va_E} {k : Nat} : e_ct (e_up (e_ct (e_up en0 0 x) 0 (SC.2.2.1 cA (fun k => rb + 0 + k) σ)) 72 y) 72 (SM.2.2.1 cA (fun k => rb + 72 + k) τ) k = SL.2.2.1 cA (fun k => rb + k) (gcat σ τ) k := by
  by_cases h : k < 72
  · rw [L_entC h]
    unfold e_ct e_up
    rw [if_pos h, if_neg (by omega)]
    exact if_neg (Nat.not_lt_zero k)
  · obtain ⟨j, rfl⟩ : ∃ j, k = 72 + j := ⟨k - 72, by omega⟩
    rw [L_entM]
    unfold e_ct
    rw [if_neg h, show 72 + j - 72 = j by omega]
    have e : (fun k => rb + 72 + k) = (fun j => rb + (72 + j)) := funext fun k => Nat.add_assoc rb 72 k
    rw [e]
set_option maxHeartbeats 4000000 in
set_option maxRecDepth 100000 in
theorem law_loop {E : gE} {d : Nat} {Q : State → Prop} (C : gCx SL E RL cL_law 4 ret d) (hd : 60 ≤ d) {b Ln : Nat} {xs : Nat → Int32} (hX : va_X b Ln xs (e_s E) (e_s E).heap) (hbl : b < (e_s E).heap.size) (hbA : ¬ gA SL (e_ad E) b) (hLn : Ln ≤ 3584) (hEnd : ∀ (L : List (Option Value)) (σ : gS), GW SL E Q 1421 L [.int 1] σ) :
    ∀ (f i : Nat) (w : Int32) (TX : gTX) (P B σ τ : gS), w = nI i → i ≤ Ln → Ln < i + f → RC TX P B σ → RM TX P B τ → gz SC σ → gz SM τ → GW SL E Q 18 [some (.ref b), some (.ref (e_ad E 0)), some (.ref (e_ad E 72)), some (.int w)] [] (gcat σ τ) := by
  intro f
  induction f with
  | zero =>
    intro i w TX P B σ τ _ h1 h2
    exact absurd h2 (by omega)
  | succ f ih =>
    intro i w TX P B σ τ Ew h1 h2 hC hM hzC hzM
    refine G_iload_n (i := 3) C 19 dL_law_18 rfl rfl rfl ?_
    refine G_aload_n (i := 0) C 20 dL_law_19 rfl rfl rfl ?_
    refine L_slen C 21 hX hbl hbA dL_law_20 rfl ?_
    refine G_bipush (v := 7) C 23 dL_law_21 rfl rfl ?_
    refine G_isub C 24 dL_law_23 rfl (fun x23 ex23 => ?_)
    refine G_icmp_gt C 1420 27 dL_law_24 rfl rfl (fun c24 => ?_) (fun c24 => ?_)
    · refine G_iconst (v := 1) C 1421 dL_law_1420 rfl rfl ?_
      exact hEnd _ _
    · have hi7 : i + 7 ≤ Ln := L_lt hLn (by omega) (by rw [← ex23, ← Ew]; exact c24)
      have hk : ∀ (TX : gTX) (P B σ τ : gS), RC TX P B σ → RM TX P B τ → gz SC σ → gz SM τ → GW SL E Q 1414 [some (.ref b), some (.ref (e_ad E 0)), some (.ref (e_ad E 72)), some (.int w)] [] (gcat σ τ) := fun TX P B σ τ hC hM hzC hzM => by
        refine G_iinc (w := 7) C 1417 dL_law_1414 rfl rfl rfl rfl (fun x ex => ?_)
        show GW SL E Q 1417 [some (.ref b), some (.ref (e_ad E 0)), some (.ref (e_ad E 72)), some (.int x)] [] (gcat σ τ)
        refine G_goto C 18 dL_law_1417 rfl ?_
        exact ih (i + 7) x TX P B σ τ (g_addN ex Ew rfl) (by omega) (by omega) hC hM hzC hzM
      refine G_aload_n (i := 0) C 28 dL_law_27 rfl rfl rfl ?_
      refine G_iload_n (i := 3) C 29 dL_law_28 rfl rfl rfl ?_
      refine L_sld C 30 hX hbl hbA Ew (by omega) hLn dL_law_29 rfl ?_
      refine G_bipush (v := 63) C 32 dL_law_30 rfl rfl ?_
      refine G_iand C 33 dL_law_32 rfl (fun x32 ex32 => ?_)
      by_cases c0 : x32 = 0
      · refine G_tsIn C 192 (0) c0 dL_law_33 (by decide) rfl rfl ?_
        exact law_0 C hd hX hbl hbA hLn Ew hi7 hC hM hzC hzM hk
      by_cases c1 : x32 = 1
      · refine G_tsIn C 215 (1) c1 dL_law_33 (by decide) rfl rfl ?_
        exact law_1 C hd hX hbl hbA hLn Ew hi7 hC hM hzC hzM hk
      by_cases c2 : x32 = 2
      · refine G_tsIn C 248 (2) c2 dL_law_33 (by decide) rfl rfl ?_
        exact law_2 C hd hX hbl hbA hLn Ew hi7 hC hM hzC hzM hk
      by_cases c3 : x32 = 3
      · refine G_tsIn C 271 (3) c3 dL_law_33 (by decide) rfl rfl ?_
        exact law_3 C hd hX hbl hbA hLn Ew hi7 hC hM hzC hzM hk
      by_cases c4 : x32 = 4
      · refine G_tsIn C 346 (4) c4 dL_law_33 (by decide) rfl rfl ?_
        exact law_4 C hd hX hbl hbA hLn Ew hi7 hC hM hzC hzM hk
      by_cases c5 : x32 = 5
      · refine G_tsIn C 359 (5) c5 dL_law_33 (by decide) rfl rfl ?_
        exact law_5 C hd hX hbl hbA hLn Ew hi7 hC hM hzC hzM hk
      by_cases c6 : x32 = 6
      · refine G_tsIn C 382 (6) c6 dL_law_33 (by decide) rfl rfl ?_
        exact law_6 C hd hX hbl hbA hLn Ew hi7 hC hM hzC hzM hk
      by_cases c7 : x32 = 7
      · refine G_tsIn C 425 (7) c7 dL_law_33 (by decide) rfl rfl ?_
        exact law_7 C hd hX hbl hbA hLn Ew hi7 hC hM hzC hzM hk
      by_cases c8 : x32 = 8
      · refine G_tsIn C 468 (8) c8 dL_law_33 (by decide) rfl rfl ?_
        exact law_8 C hd hX hbl hbA hLn Ew hi7 hC hM hzC hzM hk
      by_cases c9 : x32 = 9
      · refine G_tsIn C 511 (9) c9 dL_law_33 (by decide) rfl rfl ?_
        exact law_9 C hd hX hbl hbA hLn Ew hi7 hC hM hzC hzM hk
      by_cases c10 : x32 = 10
      · refine G_tsIn C 544 (10) c10 dL_law_33 (by decide) rfl rfl ?_
        exact law_10 C hd hX hbl hbA hLn Ew hi7 hC hM hzC hzM hk
      by_cases c11 : x32 = 11
      · refine G_tsIn C 577 (11) c11 dL_law_33 (by decide) rfl rfl ?_
        exact law_11 C hd hX hbl hbA hLn Ew hi7 hC hM hzC hzM hk
      by_cases c12 : x32 = 12
      · refine G_tsIn C 590 (12) c12 dL_law_33 (by decide) rfl rfl ?_
        exact law_12 C hd hX hbl hbA hLn Ew hi7 hC hM hzC hzM hk
      by_cases c13 : x32 = 13
      · refine G_tsIn C 623 (13) c13 dL_law_33 (by decide) rfl rfl ?_
        exact law_13 C hd hX hbl hbA hLn Ew hi7 hC hM hzC hzM hk
      by_cases c14 : x32 = 14
      · refine G_tsIn C 646 (14) c14 dL_law_33 (by decide) rfl rfl ?_
        exact law_14 C hd hX hbl hbA hLn Ew hi7 hC hM hzC hzM hk
      by_cases c15 : x32 = 15
      · refine G_tsIn C 669 (15) c15 dL_law_33 (by decide) rfl rfl ?_
        exact law_15 C hd hX hbl hbA hLn Ew hi7 hC hM hzC hzM hk
      by_cases c16 : x32 = 16
      · refine G_tsIn C 702 (16) c16 dL_law_33 (by decide) rfl rfl ?_
        exact law_16 C hd hX hbl hbA hLn Ew hi7 hC hM hzC hzM hk
      by_cases c17 : x32 = 17
      · refine G_tsIn C 735 (17) c17 dL_law_33 (by decide) rfl rfl ?_
        exact law_17 C hd hX hbl hbA hLn Ew hi7 hC hM hzC hzM hk
      by_cases c18 : x32 = 18
      · refine G_tsIn C 778 (18) c18 dL_law_33 (by decide) rfl rfl ?_
        exact law_18 C hd hX hbl hbA hLn Ew hi7 hC hM hzC hzM hk
      by_cases c19 : x32 = 19
      · refine G_tsIn C 801 (19) c19 dL_law_33 (by decide) rfl rfl ?_
        exact law_19 C hd hX hbl hbA hLn Ew hi7 hC hM hzC hzM hk
      by_cases c20 : x32 = 20
      · refine G_tsIn C 825 (20) c20 dL_law_33 (by decide) rfl rfl ?_
        exact law_20 C hd hX hbl hbA hLn Ew hi7 hC hM hzC hzM hk
      by_cases c21 : x32 = 21
      · refine G_tsIn C 848 (21) c21 dL_law_33 (by decide) rfl rfl ?_
        exact law_21 C hd hX hbl hbA hLn Ew hi7 hC hM hzC hzM hk
      by_cases c22 : x32 = 22
      · refine G_tsIn C 891 (22) c22 dL_law_33 (by decide) rfl rfl ?_
        exact law_22 C hd hX hbl hbA hLn Ew hi7 hC hM hzC hzM hk
      by_cases c23 : x32 = 23
      · refine G_tsIn C 924 (23) c23 dL_law_33 (by decide) rfl rfl ?_
        exact law_23 C hd hX hbl hbA hLn Ew hi7 hC hM hzC hzM hk
      by_cases c24 : x32 = 24
      · refine G_tsIn C 967 (24) c24 dL_law_33 (by decide) rfl rfl ?_
        exact law_24 C hd hX hbl hbA hLn Ew hi7 hC hM hzC hzM hk
      by_cases c25 : x32 = 25
      · refine G_tsIn C 1010 (25) c25 dL_law_33 (by decide) rfl rfl ?_
        exact law_25 C hd hX hbl hbA hLn Ew hi7 hC hM hzC hzM hk
      by_cases c26 : x32 = 26
      · refine G_tsIn C 1033 (26) c26 dL_law_33 (by decide) rfl rfl ?_
        exact law_26 C hd hX hbl hbA hLn Ew hi7 hC hM hzC hzM hk
      by_cases c27 : x32 = 27
      · refine G_tsIn C 1066 (27) c27 dL_law_33 (by decide) rfl rfl ?_
        exact law_27 C hd hX hbl hbA hLn Ew hi7 hC hM hzC hzM hk
      by_cases c28 : x32 = 28
      · refine G_tsIn C 1099 (28) c28 dL_law_33 (by decide) rfl rfl ?_
        exact law_28 C hd hX hbl hbA hLn Ew hi7 hC hM hzC hzM hk
      by_cases c29 : x32 = 29
      · refine G_tsIn C 1153 (29) c29 dL_law_33 (by decide) rfl rfl ?_
        exact law_29 C hd hX hbl hbA hLn Ew hi7 hC hM hzC hzM hk
      by_cases c30 : x32 = 30
      · refine G_tsIn C 1166 (30) c30 dL_law_33 (by decide) rfl rfl ?_
        exact law_30 C hd hX hbl hbA hLn Ew hi7 hC hM hzC hzM hk
      by_cases c31 : x32 = 31
      · refine G_tsIn C 1179 (31) c31 dL_law_33 (by decide) rfl rfl ?_
        exact law_31 C hd hX hbl hbA hLn Ew hi7 hC hM hzC hzM hk
      by_cases c32 : x32 = 32
      · refine G_tsIn C 1222 (32) c32 dL_law_33 (by decide) rfl rfl ?_
        exact law_32 C hd hX hbl hbA hLn Ew hi7 hC hM hzC hzM hk
      by_cases c33 : x32 = 33
      · refine G_tsIn C 1265 (33) c33 dL_law_33 (by decide) rfl rfl ?_
        exact law_33 C hd hX hbl hbA hLn Ew hi7 hC hM hzC hzM hk
      by_cases c34 : x32 = 34
      · refine G_tsIn C 1328 (34) c34 dL_law_33 (by decide) rfl rfl ?_
        exact law_34 C hd hX hbl hbA hLn Ew hi7 hC hM hzC hzM hk
      by_cases c35 : x32 = 35
      · refine G_tsIn C 1381 (35) c35 dL_law_33 (by decide) rfl rfl ?_
        exact law_35 C hd hX hbl hbA hLn Ew hi7 hC hM hzC hzM hk
      refine G_tsOut C 1414 dL_law_33 (by
        have e0 := g_ti (k := 0) 0 rfl c0
        have e1 := g_ti (k := 1) 1 rfl c1
        have e2 := g_ti (k := 2) 2 rfl c2
        have e3 := g_ti (k := 3) 3 rfl c3
        have e4 := g_ti (k := 4) 4 rfl c4
        have e5 := g_ti (k := 5) 5 rfl c5
        have e6 := g_ti (k := 6) 6 rfl c6
        have e7 := g_ti (k := 7) 7 rfl c7
        have e8 := g_ti (k := 8) 8 rfl c8
        have e9 := g_ti (k := 9) 9 rfl c9
        have e10 := g_ti (k := 10) 10 rfl c10
        have e11 := g_ti (k := 11) 11 rfl c11
        have e12 := g_ti (k := 12) 12 rfl c12
        have e13 := g_ti (k := 13) 13 rfl c13
        have e14 := g_ti (k := 14) 14 rfl c14
        have e15 := g_ti (k := 15) 15 rfl c15
        have e16 := g_ti (k := 16) 16 rfl c16
        have e17 := g_ti (k := 17) 17 rfl c17
        have e18 := g_ti (k := 18) 18 rfl c18
        have e19 := g_ti (k := 19) 19 rfl c19
        have e20 := g_ti (k := 20) 20 rfl c20
        have e21 := g_ti (k := 21) 21 rfl c21
        have e22 := g_ti (k := 22) 22 rfl c22
        have e23 := g_ti (k := 23) 23 rfl c23
        have e24 := g_ti (k := 24) 24 rfl c24
        have e25 := g_ti (k := 25) 25 rfl c25
        have e26 := g_ti (k := 26) 26 rfl c26
        have e27 := g_ti (k := 27) 27 rfl c27
        have e28 := g_ti (k := 28) 28 rfl c28
        have e29 := g_ti (k := 29) 29 rfl c29
        have e30 := g_ti (k := 30) 30 rfl c30
        have e31 := g_ti (k := 31) 31 rfl c31
        have e32 := g_ti (k := 32) 32 rfl c32
        have e33 := g_ti (k := 33) 33 rfl c33
        have e34 := g_ti (k := 34) 34 rfl c34
        have e35 := g_ti (k := 35) 35 rfl c35
        omega) rfl ?_
      exact hk _ _ _ _ _ hC hM hzC hzM
