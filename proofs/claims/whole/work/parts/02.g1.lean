abbrev gS : Type := Nat → Nat → Int32
def g_set (σ : gS) (k : Nat) (f : Nat → Int32) : gS := fun a => if a = k then f else σ a
def g_up (σ : gS) (k j : Nat) (v : Int32) : gS := g_set σ k (upd (σ k) j v)
theorem g_set_s (σ : gS) (k : Nat) (f : Nat → Int32) : g_set σ k f k = f := if_pos rfl
theorem g_set_n (σ : gS) {k a : Nat} (f : Nat → Int32) (h : a ≠ k) : g_set σ k f a = σ a := if_neg h
abbrev gEnt : Type := (Nat → ClassId) → (Nat → Nat) → gS → Nat → va_E
abbrev gSd : Type := Nat × (Nat → Nat) × gEnt × ((Nat → Nat) → (Nat → Prop) → State → Heap → Prop)
abbrev gE : Type := Program × Launch × Env × Room × State × MethodId × Array Value × List Frame × Method × Code × va_G × (Nat → ClassId) × (Nat → Nat) × (Nat → Nat) × Nat × Nat
abbrev e_p (E : gE) : Program := E.1
abbrev e_l (E : gE) : Launch := E.2.1
abbrev e_e (E : gE) : Env := E.2.2.1
abbrev e_R (E : gE) : Room := E.2.2.2.1
abbrev e_s (E : gE) : State := E.2.2.2.2.1
abbrev e_m (E : gE) : MethodId := E.2.2.2.2.2.1
abbrev e_a (E : gE) : Array Value := E.2.2.2.2.2.2.1
abbrev e_b (E : gE) : List Frame := E.2.2.2.2.2.2.2.1
abbrev e_M (E : gE) : Method := E.2.2.2.2.2.2.2.2.1
abbrev e_c (E : gE) : Code := E.2.2.2.2.2.2.2.2.2.1
abbrev e_D (E : gE) : va_G := E.2.2.2.2.2.2.2.2.2.2.1
abbrev e_cA (E : gE) : Nat → ClassId := E.2.2.2.2.2.2.2.2.2.2.2.1
abbrev e_ad (E : gE) : Nat → Nat := E.2.2.2.2.2.2.2.2.2.2.2.2.1
abbrev e_z (E : gE) : Nat → Nat := E.2.2.2.2.2.2.2.2.2.2.2.2.2.1
abbrev e_ck (E : gE) : Nat := E.2.2.2.2.2.2.2.2.2.2.2.2.2.2.1
abbrev e_cs (E : gE) : Nat := E.2.2.2.2.2.2.2.2.2.2.2.2.2.2.2
def gPic (S : gSd) (cA : Nat → ClassId) (ad : Nat → Nat) (σ : gS) : va_W := (List.range S.1).map (fun k => (ad k, S.2.2.1 cA ad σ k))
theorem gPic_at {S : gSd} {cA : Nat → ClassId} {ad : Nat → Nat} {σ : gS} {k : Nat} (hk : k < S.1) : (gPic S cA ad σ)[k]? = some (ad k, S.2.2.1 cA ad σ k) := by
  simp [gPic, hk]
theorem gPic_inv {S : gSd} {cA : Nat → ClassId} {ad : Nat → Nat} {σ : gS} {k : Nat} {q : Nat × va_E} (h : (gPic S cA ad σ)[k]? = some q) : k < S.1 ∧ q = (ad k, S.2.2.1 cA ad σ k) := by
  have hk : k < S.1 := by
    have := (List.getElem?_eq_some_iff.mp h).1
    simpa [gPic] using this
  rw [gPic_at hk] at h
  exact ⟨hk, (Option.some.inj h).symm⟩
def gA (S : gSd) (ad : Nat → Nat) : Nat → Prop := fun q => ∃ k, k < S.1 ∧ q = ad k
def gInj (S : gSd) (ad : Nat → Nat) : Prop := ∀ i j, i < S.1 → j < S.1 → ad i = ad j → i = j
theorem gD_of {S : gSd} {cA : Nat → ClassId} {ad : Nat → Nat} (σ : gS) (h : gInj S ad) : va_D (gA S ad) (gPic S cA ad σ) := by
  refine ⟨fun i j p q hp hq e => ?_, fun k q hq => ?_⟩
  · obtain ⟨h1, rfl⟩ := gPic_inv hp
    obtain ⟨h2, rfl⟩ := gPic_inv hq
    exact h i j h1 h2 e
  · obtain ⟨h1, rfl⟩ := gPic_inv hq
    exact ⟨k, h1, rfl⟩
def gz (S : gSd) (σ : gS) : Prop := ∀ k j, S.2.1 k ≤ j → σ k j = 0
theorem gz_up {S : gSd} {σ : gS} {k j : Nat} {v : Int32} (h : gz S σ) (hj : j < S.2.1 k) : gz S (g_up σ k j v) := by
  intro a b hb
  unfold g_up g_set
  by_cases ha : a = k
  · subst ha
    rw [if_pos rfl]
    unfold upd
    rw [if_neg (by omega)]
    exact h a b hb
  · rw [if_neg ha]
    exact h a b hb
def gT (cA : Nat → ClassId) : List (ClassId × FieldType) := [(cA 0, .int), (cA 1, .object RX7), (cA 2, .object RX4), (cA 3, .object RX0)]
def gOk (S : gSd) : Prop :=
  (∀ z A s U H, State.WarmedH s U.vm → S.2.2.2 z A s H → S.2.2.2 z A U H) ∧
  (∀ z A (u U : State) H, U.vm = u.vm → S.2.2.2 z A u H → S.2.2.2 z A U H) ∧
  (∀ z A U H H1, S.2.2.2 z A U H → (∀ a : Nat, a < H.size → ¬ A a → H1[a]? = H[a]?) → S.2.2.2 z A U H1) ∧
  (∀ cA ad σ σ' k, σ k = σ' k → S.2.2.1 cA ad σ k = S.2.2.1 cA ad σ' k)
theorem gPic_set {S : gSd} (ok : gOk S) {cA : Nat → ClassId} {ad : Nat → Nat} {σ σ' : gS} {k : Nat} {x : va_E} (hx : S.2.2.1 cA ad σ' k = x) (hn : ∀ a, a ≠ k → σ' a = σ a) : (gPic S cA ad σ).set k (ad k, x) = gPic S cA ad σ' := by
  apply List.ext_getElem?
  intro i
  rw [List.getElem?_set]
  by_cases hi : k = i
  · subst hi
    by_cases hk : k < S.1
    · rw [if_pos rfl, if_pos (by simpa [gPic] using hk), gPic_at hk, hx]
    · rw [if_pos rfl, if_neg (by simpa [gPic] using hk)]
      symm
      apply List.getElem?_eq_none
      simpa [gPic] using hk
  · rw [if_neg hi]
    by_cases hk : i < S.1
    · rw [gPic_at hk, gPic_at hk, ok.2.2.2 cA ad σ' σ i (hn i (fun e => hi e.symm))]
    · rw [List.getElem?_eq_none (by simpa [gPic] using hk), List.getElem?_eq_none (by simpa [gPic] using hk)]
def gRm (d : Nat) : Room := { frames := d, cells := 0, slots := 0, locals := 64 * d }
def gPre (S : gSd) (D : va_G) (cA : Nat → ClassId) (ad z : Nat → Nat) (σ : gS) (U : State) : Prop := va_P D vwCl (gPic S cA ad σ) U.heap ∧ va_K D vwCl (gT cA) U ∧ gz S σ ∧ gInj S ad ∧ S.2.2.2 z (gA S ad) U U.heap
def gB (S : gSd) (D : va_G) (cA : Nat → ClassId) (ad : Nat → Nat) (σ : gS) (t : State) : Prop := va_P D vwCl (gPic S cA ad σ) t.heap ∧ va_K D vwCl (gT cA) t ∧ gz S σ
abbrev gQc : Type := va_G → (Nat → ClassId) → (Nat → Nat) → Array Value → State → Outcome → State → Prop
def gMt (S : gSd) (y : MethodName) (cc : ByteArray) (nL : Nat) (ret : Option FieldType) (d : Nat) (As : (Nat → Nat) → List Value) (σ : gS) (Qc : gQc) : Prop :=
  ∀ (l : Launch) (D : va_G) (cA : Nat → ClassId) (ad z : Nat → Nat), Met l y (.code y cc nL ret :: gTB) (gRm d) (va_Pc (As ad) (gPre S D cA ad z σ)) (Qc D cA ad) 0 0 (gA S ad)
def gQi (S : gSd) (P : Int32 → gS → Prop) : gQc := fun D cA ad => va_Qi P (gB S D cA ad) (gA S ad)
def gQl (S : gSd) (P : Int64 → gS → Prop) : gQc := fun D cA ad => va_Ql P (gB S D cA ad) (gA S ad)
def gQv (S : gSd) (P : gS → Prop) : gQc := fun D cA ad => va_Qv P (gB S D cA ad) (gA S ad)
def gQr (S : gSd) (P : Nat → gS → Prop) : gQc := fun D cA ad => va_Qr (fun u : gS × Nat => P u.2 u.1) (fun u a t => a = ad u.2 ∧ gB S D cA ad u.1 t) (gA S ad)
def gCx (S : gSd) (E : gE) (own : String) (cc : ByteArray) (nL : Nat) (ret : Option FieldType) (d : Nat) : Prop :=
  (e_p E).tables.exec = Jvm.exec ∧ (e_c E).code = cc ∧ (e_c E).maxLocals = nL ∧ (e_s E).vm.findClass own = some (e_m E).cls ∧ (∀ w ∈ gTB, w.before (e_a E) (e_s E) = true) ∧ (e_M E).sig.returnType = ret ∧ (e_M E).locks = false ∧
  va_K (e_D E) vwCl (gT (e_cA E)) (e_s E) ∧ gInj S (e_ad E) ∧ S.2.2.2 (e_z E) (gA S (e_ad E)) (e_s E) (e_s E).heap ∧ gOk S ∧ d ≤ (e_R E).frames ∧ 64 * d ≤ (e_R E).locals ∧ e_ck E ≤ (e_R E).cells ∧ e_cs E ≤ (e_R E).slots
def gl : List (Option Value) → Nat → List (Nat × Value)
  | [], _ => []
  | none :: t, i => gl t (i + 1)
  | some v :: t, i => (i, v) :: gl t (i + 1)
theorem gl_mem {L : List (Option Value)} : ∀ {n i : Nat} {v : Value}, (i, v) ∈ gl L n ↔ n ≤ i ∧ L[i - n]? = some (some v) := by
  induction L with
  | nil => intro n i v; simp [gl]
  | cons a t ih =>
    intro n i v
    have key : (n + 1 ≤ i ∧ t[i - (n + 1)]? = some (some v)) ↔ (n < i ∧ (a :: t)[i - n]? = some (some v)) := by
      constructor
      · rintro ⟨h1, h2⟩
        refine ⟨h1, ?_⟩
        rw [show i - n = (i - (n + 1)) + 1 by omega, List.getElem?_cons_succ]
        exact h2
      · rintro ⟨h1, h2⟩
        refine ⟨h1, ?_⟩
        rw [show i - n = (i - (n + 1)) + 1 by omega, List.getElem?_cons_succ] at h2
        exact h2
    cases a with
    | none =>
      rw [gl, ih, key]
      constructor
      · rintro ⟨h1, h2⟩
        exact ⟨Nat.le_of_lt h1, h2⟩
      · rintro ⟨h1, h2⟩
        rcases Nat.lt_or_ge n i with h | h
        · exact ⟨h, h2⟩
        · have : i - n = 0 := by omega
          rw [this] at h2
          simp at h2
    | some w =>
      rw [gl, List.mem_cons, ih, key]
      constructor
      · rintro (h | ⟨h1, h2⟩)
        · cases h
          exact ⟨Nat.le_refl _, by simp⟩
        · exact ⟨Nat.le_of_lt h1, h2⟩
      · rintro ⟨h1, h2⟩
        rcases Nat.lt_or_ge n i with h | h
        · exact Or.inr ⟨h, h2⟩
        · have e : i = n := by omega
          subst e
          rw [Nat.sub_self] at h2
          simp at h2
          exact Or.inl (by rw [h2])
theorem gl_mem0 {L : List (Option Value)} {i : Nat} {v : Value} : (i, v) ∈ gl L 0 ↔ L[i]? = some (some v) := by
  rw [gl_mem]
  simp
def lvx (ls : Array Slot) (L : List (Option Value)) : Prop := lv_has ls L.length (gl L 0)
theorem lvx_at {ls : Array Slot} {L : List (Option Value)} (h : lvx ls L) {i : Nat} {v : Value} (hv : L[i]? = some (some v)) : ls[i]? = some (.val v) := h.2.2 (i, v) (gl_mem0.mpr hv)
def g_ok1 (L : List (Option Value)) : Nat → Bool
  | 0 => true
  | k + 1 => match L[k]? with
    | some (some w) => w.category == 1
    | _ => true
theorem g_ok1_spec {L : List (Option Value)} {i j : Nat} {w : Value} (h : g_ok1 L i = true) (hj : L[j]? = some (some w)) (e : j + 1 = i) : w.category = 1 := by
  subst e
  simp only [g_ok1, hj] at h
  simpa using h
theorem lvx_set {ls' : Array Slot} {L L' : List (Option Value)} {i : Nat} {v : Value} (hL : L.set i (some v) = L') (hc : g_ok1 L i = true) (h : lv_has ls' L.length ((i, v) :: (gl L 0).filter (fun q => !(q.1 == i) && !(q.1 + 1 == i && q.2.category == 2)))) : lvx ls' L' := by
  subst hL
  refine ⟨by rw [List.length_set]; exact h.1, h.2.1, fun q hq => ?_⟩
  obtain ⟨j, w⟩ := q
  rw [gl_mem0, List.getElem?_set] at hq
  by_cases e : i = j
  · subst e
    by_cases hl : i < L.length
    · rw [if_pos rfl, if_pos hl] at hq
      cases hq
      exact h.2.2 _ List.mem_cons_self
    · rw [if_pos rfl, if_neg hl] at hq
      cases hq
  · rw [if_neg e] at hq
    refine h.2.2 _ (List.mem_cons_of_mem _ (List.mem_filter.mpr ⟨gl_mem0.mpr hq, ?_⟩))
    have h1 : (j == i) = false := by simpa using fun z => e z.symm
    rw [h1]
    by_cases e2 : j + 1 = i
    · have := g_ok1_spec hc hq e2
      simp [this]
    · simp [e2]
theorem lvx_set2 {ls' : Array Slot} {L L' : List (Option Value)} {i : Nat} {v : Value} (hL : (L.set i (some v)).set (i + 1) none = L') (hc : g_ok1 L i = true) (h : lv_has ls' L.length ((i, v) :: (gl L 0).filter (fun q => !(q.1 == i) && (!(q.1 == i + 1) && !(q.1 + 1 == i && q.2.category == 2))))) : lvx ls' L' := by
  subst hL
  refine ⟨by rw [List.length_set, List.length_set]; exact h.1, h.2.1, fun q hq => ?_⟩
  obtain ⟨j, w⟩ := q
  rw [gl_mem0, List.getElem?_set] at hq
  by_cases e3 : i + 1 = j
  · subst e3
    rw [if_pos rfl] at hq
    split at hq <;> cases hq
  · rw [if_neg e3, List.getElem?_set] at hq
    by_cases e : i = j
    · subst e
      by_cases hl : i < L.length
      · rw [if_pos rfl, if_pos hl] at hq
        cases hq
        exact h.2.2 _ List.mem_cons_self
      · rw [if_pos rfl, if_neg hl] at hq
        cases hq
    · rw [if_neg e] at hq
      refine h.2.2 _ (List.mem_cons_of_mem _ (List.mem_filter.mpr ⟨gl_mem0.mpr hq, ?_⟩))
      have h1 : (j == i) = false := by simpa using fun z => e z.symm
      have h2 : (j == i + 1) = false := by simpa using fun z => e3 z.symm
      rw [h1, h2]
      by_cases e2 : j + 1 = i
      · have := g_ok1_spec hc hq e2
        simp [this]
      · simp [e2]
def GW (S : gSd) (E : gE) (Q : State → Prop) (pc : Nat) (L : List (Option Value)) (st : List Value) (σ : gS) : Prop :=
  ∀ (H : Heap) (locs : List Loc) (ls : Array Slot), va_P (e_D E) vwCl (gPic S (e_cA E) (e_ad E) σ) H → va_S (gA S (e_ad E)) (e_s E).heap H locs → lvx ls L → gz S σ →
    W (e_p E) (e_l E) (e_e E) (e_R E) (e_s E) (e_m E) (e_a E) (e_b E) (e_M E) (e_c E) H locs (e_ck E) (e_cs E) Q (F0 (e_m E) pc ls st)
def gFin (S : gSd) (E : gE) (Qc : gQc) : State → Prop := MQ (e_b E) (Qc (e_D E) (e_cA E) (e_ad E)) (e_a E) (e_s E) (e_ck E) (e_cs E) (gA S (e_ad E))
theorem g_ofWF {y : MethodName} {ws ws' : List Cond} {rm : Room} {Pc : Array Value → State → Prop} {Qc : Array Value → State → Outcome → State → Prop} {mc ms : Nat} {free : Addr → Prop} {cc : ByteArray} {maxL : Nat} {ret : Option FieldType} {l : Launch}
    (hy : plainFor y = true) (hw : ws = Cond.code y cc maxL ret :: ws')
    (body : ∀ p e s m args below meth c s₁, BodyLoose p l y (headSpec ws rm) cc maxL ret e s m args below meth c s₁ → c.maxLocals = maxL → Pc args s →
      W p l e (headSpec ws rm).room s m args below meth c s.heap [] 0 0 (MQ below Qc args s mc ms free) (entryFrame m args maxL)) : Met l y ws rm Pc Qc mc ms free := by
  refine MetFree.of_bodySF (code := cc) (maxLocals := maxL) (ret := ret) hy ?_ ?_
  · intro args s m h hn
    obtain ⟨meth, c, h1, h2, h3, h4, h5, h6, -, -⟩ := Cond.code_spec hn (atoms_spec (ws := ws) h _ (by rw [hw]; exact List.mem_cons_self))
    exact ⟨meth, c, h1, h2, h3, h4, h5, h6⟩
  · intro p e s m args below meth c s₁ B hml hP _
    have hh0 : s₁.heap = s.heap := by rw [B.state]; rfl
    obtain ⟨t, a1, o, b1, b2, b3⟩ := body p e s m args below meth c s₁ B hml hP s₁ hh0 (Stand.of_body B)
    exact ⟨t, o, a1, b1, b2, ⟨b3.1, b3.2⟩⟩
theorem gMt_of {S : gSd} {y : MethodName} {cc : ByteArray} {nL : Nat} {ret : Option FieldType} {d : Nat} {As : (Nat → Nat) → List Value} {σ : gS} {Qc : gQc} (ok : gOk S) (hy : plainFor y = true) (L0 : (Nat → Nat) → List (Option Value)) (hL : ∀ ad, gl (L0 ad) 0 = lv_args 0 (As ad)) (hn : ∀ ad, (L0 ad).length = nL) (hl : ∀ ad, (lg_sl (As ad)).length ≤ nL)
    (body : ∀ E : gE, gCx S E y.cls cc nL ret d → GW S E (gFin S E Qc) 0 (L0 (e_ad E)) [] σ) : gMt S y cc nL ret d As σ Qc := by
  intro l D cA ad z
  refine g_ofWF (cc := cc) (maxL := nL) (ret := ret) hy rfl ?_
  intro p e s m args below meth c s₁ B hml hv
  obtain ⟨rfl, hP, hK, hz, hI, hJ⟩ := hv
  have hts := atoms_spec (ws := .code y cc nL ret :: gTB) B.pre
  rw [lg_entry_eq]
  exact body (p, l, e, _, s, m, (As ad).toArray, below, meth, c, D, cA, ad, z, 0, 0)
    ⟨B.exec, B.bytes, hml, findClass_of_methodNamed B.named, fun w hw => hts w (List.mem_cons_of_mem _ hw), B.returns, B.notSynchronized, hK, hI, hJ, ok, Nat.le_refl _, Nat.le_refl _, Nat.le_refl _, Nat.le_refl _⟩
    s.heap [] _ hP va_S.rf (show lv_has _ (L0 ad).length (gl (L0 ad) 0) by rw [hn, hL]; exact lv_entry (As ad) (hl ad)) hz
