def isNest : Cond → Bool
  | .fieldLinkNest .. => true
  | .methodLinkNest .. => true
  | _ => false
def gNB : List Cond := lw_tbl.filter isNest
theorem gNB_of {w : Cond} (h : w ∈ lw_tbl) (g : isNest w = true) : w ∈ gNB := List.mem_filter.mpr ⟨h, g⟩
theorem gNB_warm {w : Cond} (h : w ∈ gNB) {s U : State} (hW : State.WarmedH s U.vm) (hZ : va_Nw w s) : va_Nw w U := by
  have g := (List.mem_filter.mp h).2
  cases w <;> first | exact va_Nw.warmF hW hZ | exact va_Nw.warmM hW hZ | (simp [isNest] at g)
theorem gNB_same {w : Cond} (h : w ∈ gNB) {u U : State} (hv : U.vm = u.vm) (hZ : va_Nw w u) : va_Nw w U := by
  have g := (List.mem_filter.mp h).2
  cases w <;> first | exact va_Nw.same rfl hv.symm hZ | (simp [isNest] at g)
def sLaw : List Int32 := [99, 117, 114, 105, 111, 117, 115, 32, 53, 48, 32, 59, 32, 100, 114, 101, 97, 100, 115, 32, 98, 97, 100, 32, 59, 32, 103, 111, 101, 115, 32, 48, 32, 59]
def sWords : List Int32 := [99, 117, 114, 105, 111, 117, 115, 32, 100, 114, 101, 97, 100, 115, 32, 103, 111, 101, 115, 32, 111, 114, 32, 97, 110, 100, 32, 110, 111, 116, 32, 98, 97, 100, 32, 99, 111, 114, 110, 101, 114, 32, 107, 110, 111, 119, 110, 32, 119, 97, 110, 116, 101, 100, 32, 104, 111, 117, 114, 32, 109, 111, 114, 101]
def sSigns : List Int32 := [40, 41, 59, 43, 45, 42, 60, 61]
def sByt : List (List Int32) := [sLaw, sWords, sSigns]
def sLen : List Nat := [34, 64, 8]
def mostPut : Nat → Int32 := fun j => if j = 0 then 8 else if j = 1 then 1023 else if j = 2 then 1023 else if j = 3 then 1 else 0
def SCJ (z : Nat → Nat) (A : Nat → Prop) (U : State) (H : Heap) : Prop :=
  vk_S 3 sLen sByt z (fun i => z (i + 3)) A U H ∧ va_Z "java/lang/String" "COMPACT_STRINGS" "Z" (.int 1) A U H ∧ va_Zq "jdk/internal/util/Preconditions" "SIOOBE_FORMATTER" "Ljava/util/function/BiFunction;" A U H ∧
  va_Z RX10 "MOST_PUT" "[I" (.ref (z 6)) A U H ∧ va_T .int (z 6) 4 (fun j => .int (mostPut j)) A U H ∧
  (vk_R RX10 67 "curious 50 ; dreads bad ; goes 0 ;" (z 0) U ∧ vk_R RX6 95 "curious dreads goes or and not bad corner known wanted hour more" (z 1) U ∧ vk_R RX6 88 "();+-*<=" (z 2) U) ∧ ∀ w ∈ gNB, va_Nw w U
def gRefs (f : Nat → Option Nat) : (Nat → Int32) ⊕ (Nat → Int64) ⊕ (Nat → UInt32) ⊕ (Nat → UInt64) ⊕ (Nat → Option Nat) := .inr (.inr (.inr (.inr f)))
def intoV (ad : Nat → Nat) (x : Int32) : Value := if x = 0 then .null else .ref (ad x.toNatClampNeg)
def fC (ad : Nat → Nat) (σ : gS) : List Value := [.ref (ad 1), .ref (ad 2), .ref (ad 3), .ref (ad 45), .ref (ad 54), .ref (ad 63), .ref (ad 5), .int (σ 0 7), .int (σ 0 8)]
def fTp (ad : Nat → Nat) (σ : gS) : List Value := [.ref (ad 4), .int (σ 3 1), .int (σ 3 2), .int (σ 3 3), .int (σ 3 4), .int (σ 3 5), intoV ad (σ 3 6)]
def fTx (k : Nat) (ad : Nat → Nat) (σ : gS) : List Value := [.ref (ad (k + 1)), .ref (ad (k + 2)), .ref (ad (k + 3)), .int (σ k 3)]
def fSh (k : Nat) (ad : Nat → Nat) (σ : gS) : List Value := [.ref (ad (k + 1)), .int (σ k 1), .int (σ k 2)]
def fW (k : Nat) (ad : Nat → Nat) (σ : gS) : List Value := [.ref (ad 1), .ref (ad 38), .int (σ k 2), .int (σ k 3), .int (σ k 4), .int (σ k 5), .int (σ k 6), .ref (ad (k + 1)), .ref (ad (k + 2)), .ref (ad (k + 3)), .ref (ad (k + 4)), .ref (ad (k + 5)), .ref (ad (k + 6)), .ref (ad (k + 7)), .ref (ad (k + 8))]
def ciK (k : Nat) : Nat := if k = 0 then 0 else if k = 1 then 3 else if k = 2 then 1 else if k = 3 then 8 else if k = 4 then 2 else 5
def SCent : gEnt := fun cA ad σ k =>
  if k = 0 then .inr (10, fC ad σ)
  else if k = 1 then .inl (cA 1, 6, gRefs (fun j => some (ad (6 + 4 * j))))
  else if k = 2 then .inl (cA 2, 4, gRefs (fun j => some (ad (30 + 2 * j))))
  else if k = 3 then .inr (6, fTp ad σ)
  else if k = 4 then .inl (cA 0, 160, .inl (σ k))
  else if k = 5 then .inl (cA 0, 9, .inl (σ k))
  else if k < 30 then (if (k - 6) % 4 = 0 then .inr (7, fTx k ad σ) else .inl (cA 0, if (k - 6) % 4 = 2 then 3 else 160, .inl (σ k)))
  else if k < 38 then (if (k - 30) % 2 = 0 then .inr (4, fSh k ad σ) else .inl (cA 0, 40, .inl (σ k)))
  else if k = 38 then .inl (cA 3, 6, gRefs (fun j => some (ad (39 + j))))
  else if k < 45 then .inr (ciK (k - 39), [])
  else if (k - 45) % 9 = 0 then .inr (9, fW k ad σ)
  else .inl (cA 0, if (k - 45) % 9 = 1 then 10 else 6, .inl (σ k))
def SClen : Nat → Nat := fun k =>
  if k = 0 then 9 else if k = 1 then 0 else if k = 2 then 0 else if k = 3 then 7 else if k = 4 then 160 else if k = 5 then 9
  else if k < 30 then (if (k - 6) % 4 = 0 then 4 else if (k - 6) % 4 = 2 then 3 else 160)
  else if k < 38 then (if (k - 30) % 2 = 0 then 3 else 40)
  else if k < 45 then 0
  else if k < 72 then (if (k - 45) % 9 = 0 then 15 else if (k - 45) % 9 = 1 then 10 else 6)
  else 0
def SC : gSd := (72, SClen, SCent, SCJ)
theorem SC_ok : gOk SC := by
  refine ⟨?_, ?_, ?_, ?_⟩
  · rintro z A s U H hW ⟨h1, h2, h3, h4, h5, ⟨h6, h7, h8⟩, h9⟩
    exact ⟨h1.moved hW.alike, h2.moved hW.alike, h3.moved hW.alike, h4.moved hW.alike, h5.moved hW.alike, ⟨h6.warm hW, h7.warm hW, h8.warm hW⟩, fun w hw => gNB_warm hw hW (h9 w hw)⟩
  · rintro z A u U H hv ⟨h1, h2, h3, h4, h5, ⟨h6, h7, h8⟩, h9⟩
    have hA : u.vm.Alike U.vm := by rw [hv]; exact Vm.Alike.refl _
    exact ⟨h1.moved hA, h2.moved hA, h3.moved hA, h4.moved hA, h5.moved hA, ⟨h6.same hv, h7.same hv, h8.same hv⟩, fun w hw => gNB_same hw hv (h9 w hw)⟩
  · rintro z A U H H1 ⟨h1, h2, h3, h4, h5, h6, h9⟩ hq
    exact ⟨h1.kept hq, h2.kept hq, h3.kept hq, h4.kept hq, h5.kept hq, h6, h9⟩
  · intro cA ad σ σ' k h
    show SCent cA ad σ k = SCent cA ad σ' k
    by_cases h0 : k = 0
    · subst h0
      show (Sum.inr (10, fC ad σ) : va_E) = Sum.inr (10, fC ad σ')
      unfold fC
      rw [h]
    by_cases h3 : k = 3
    · subst h3
      show (Sum.inr (6, fTp ad σ) : va_E) = Sum.inr (6, fTp ad σ')
      unfold fTp
      rw [h]
    unfold SCent fTx fSh fW
    simp only [h, h0, h3, if_false]
def isW (w : Nat) : Prop := w = 45 ∨ w = 54 ∨ w = 63
section SCL
variable (cA : Nat → ClassId) (ad : Nat → Nat) (σ : gS)
theorem eC : SC.2.2.1 cA ad σ 0 = .inr (10, fC ad σ) := rfl
theorem eC1 : SC.2.2.1 cA ad σ 1 = .inl (cA 1, 6, gRefs (fun j => some (ad (6 + 4 * j)))) := rfl
theorem eC2 : SC.2.2.1 cA ad σ 2 = .inl (cA 2, 4, gRefs (fun j => some (ad (30 + 2 * j)))) := rfl
theorem eTp : SC.2.2.1 cA ad σ 3 = .inr (6, fTp ad σ) := rfl
theorem eTb : SC.2.2.1 cA ad σ 4 = .inl (cA 0, 160, .inl (σ 4)) := rfl
theorem eMa : SC.2.2.1 cA ad σ 5 = .inl (cA 0, 9, .inl (σ 5)) := rfl
theorem eNa : SC.2.2.1 cA ad σ 38 = .inl (cA 3, 6, gRefs (fun j => some (ad (39 + j)))) := rfl
theorem c6 {P : Nat → Prop} {t : Nat} (ht : t < 6) (h0 : P 0) (h1 : P 1) (h2 : P 2) (h3 : P 3) (h4 : P 4) (h5 : P 5) : P t := by
  have : t = 0 ∨ t = 1 ∨ t = 2 ∨ t = 3 ∨ t = 4 ∨ t = 5 := by omega
  rcases this with rfl | rfl | rfl | rfl | rfl | rfl <;> assumption
theorem c4 {P : Nat → Prop} {t : Nat} (ht : t < 4) (h0 : P 0) (h1 : P 1) (h2 : P 2) (h3 : P 3) : P t := by
  have : t = 0 ∨ t = 1 ∨ t = 2 ∨ t = 3 := by omega
  rcases this with rfl | rfl | rfl | rfl <;> assumption
theorem eTx {t : Nat} (ht : t < 6) : SC.2.2.1 cA ad σ (6 + 4 * t) = .inr (7, fTx (6 + 4 * t) ad σ) := c6 (P := fun t => SC.2.2.1 cA ad σ (6 + 4 * t) = .inr (7, fTx (6 + 4 * t) ad σ)) ht rfl rfl rfl rfl rfl rfl
theorem eTs {t : Nat} (ht : t < 6) : SC.2.2.1 cA ad σ (6 + 4 * t + 1) = .inl (cA 0, 160, .inl (σ (6 + 4 * t + 1))) := c6 (P := fun t => SC.2.2.1 cA ad σ (6 + 4 * t + 1) = .inl (cA 0, 160, .inl (σ (6 + 4 * t + 1)))) ht rfl rfl rfl rfl rfl rfl
theorem eTe {t : Nat} (ht : t < 6) : SC.2.2.1 cA ad σ (6 + 4 * t + 2) = .inl (cA 0, 3, .inl (σ (6 + 4 * t + 2))) := c6 (P := fun t => SC.2.2.1 cA ad σ (6 + 4 * t + 2) = .inl (cA 0, 3, .inl (σ (6 + 4 * t + 2)))) ht rfl rfl rfl rfl rfl rfl
theorem eTv {t : Nat} (ht : t < 6) : SC.2.2.1 cA ad σ (6 + 4 * t + 3) = .inl (cA 0, 160, .inl (σ (6 + 4 * t + 3))) := c6 (P := fun t => SC.2.2.1 cA ad σ (6 + 4 * t + 3) = .inl (cA 0, 160, .inl (σ (6 + 4 * t + 3)))) ht rfl rfl rfl rfl rfl rfl
theorem eSh {t : Nat} (ht : t < 4) : SC.2.2.1 cA ad σ (30 + 2 * t) = .inr (4, fSh (30 + 2 * t) ad σ) := c4 (P := fun t => SC.2.2.1 cA ad σ (30 + 2 * t) = .inr (4, fSh (30 + 2 * t) ad σ)) ht rfl rfl rfl rfl
theorem eSn {t : Nat} (ht : t < 4) : SC.2.2.1 cA ad σ (30 + 2 * t + 1) = .inl (cA 0, 40, .inl (σ (30 + 2 * t + 1))) := c4 (P := fun t => SC.2.2.1 cA ad σ (30 + 2 * t + 1) = .inl (cA 0, 40, .inl (σ (30 + 2 * t + 1)))) ht rfl rfl rfl rfl
theorem eCit {t : Nat} (ht : t < 6) : SC.2.2.1 cA ad σ (39 + t) = .inr (ciK t, []) := c6 (P := fun t => SC.2.2.1 cA ad σ (39 + t) = .inr (ciK t, [])) ht rfl rfl rfl rfl rfl rfl
theorem eW {w : Nat} (h : isW w) : SC.2.2.1 cA ad σ w = .inr (9, fW w ad σ) := by rcases h with rfl | rfl | rfl <;> rfl
theorem eWe {w : Nat} (h : isW w) : SC.2.2.1 cA ad σ (w + 1) = .inl (cA 0, 10, .inl (σ (w + 1))) := by rcases h with rfl | rfl | rfl <;> rfl
theorem eW2 {w : Nat} (h : isW w) : SC.2.2.1 cA ad σ (w + 2) = .inl (cA 0, 6, .inl (σ (w + 2))) := by rcases h with rfl | rfl | rfl <;> rfl
theorem eW3 {w : Nat} (h : isW w) : SC.2.2.1 cA ad σ (w + 3) = .inl (cA 0, 6, .inl (σ (w + 3))) := by rcases h with rfl | rfl | rfl <;> rfl
theorem eW4 {w : Nat} (h : isW w) : SC.2.2.1 cA ad σ (w + 4) = .inl (cA 0, 6, .inl (σ (w + 4))) := by rcases h with rfl | rfl | rfl <;> rfl
theorem eW5 {w : Nat} (h : isW w) : SC.2.2.1 cA ad σ (w + 5) = .inl (cA 0, 6, .inl (σ (w + 5))) := by rcases h with rfl | rfl | rfl <;> rfl
theorem eW6 {w : Nat} (h : isW w) : SC.2.2.1 cA ad σ (w + 6) = .inl (cA 0, 6, .inl (σ (w + 6))) := by rcases h with rfl | rfl | rfl <;> rfl
theorem eW7 {w : Nat} (h : isW w) : SC.2.2.1 cA ad σ (w + 7) = .inl (cA 0, 6, .inl (σ (w + 7))) := by rcases h with rfl | rfl | rfl <;> rfl
theorem eW8 {w : Nat} (h : isW w) : SC.2.2.1 cA ad σ (w + 8) = .inl (cA 0, 6, .inl (σ (w + 8))) := by rcases h with rfl | rfl | rfl <;> rfl
end SCL
theorem lW {w i : Nat} (h : isW w) (hi : i < 9) : w + i < SC.1 := by
  show w + i < 72
  rcases h with rfl | rfl | rfl <;> omega
theorem lW0 {w : Nat} (h : isW w) : w < SC.1 := lW (i := 0) h (by decide)
theorem lT {t i : Nat} (h : t < 6) (hi : i < 4) : 6 + 4 * t + i < SC.1 := by
  show 6 + 4 * t + i < 72
  omega
theorem lT0 {t : Nat} (h : t < 6) : 6 + 4 * t < SC.1 := lT (i := 0) h (by decide)
theorem lS {t i : Nat} (h : t < 4) (hi : i < 2) : 30 + 2 * t + i < SC.1 := by
  show 30 + 2 * t + i < 72
  omega
theorem lS0 {t : Nat} (h : t < 4) : 30 + 2 * t < SC.1 := lS (i := 0) h (by decide)
theorem nW0 {w : Nat} (h : isW w) : SC.2.1 w = 15 := by rcases h with rfl | rfl | rfl <;> rfl
theorem nW1 {w : Nat} (h : isW w) : SC.2.1 (w + 1) = 10 := by rcases h with rfl | rfl | rfl <;> rfl
theorem nWi {w i : Nat} (h : isW w) (hi : 1 < i) (h9 : i < 9) : SC.2.1 (w + i) = 6 := by
  have : i = 2 ∨ i = 3 ∨ i = 4 ∨ i = 5 ∨ i = 6 ∨ i = 7 ∨ i = 8 := by omega
  rcases h with rfl | rfl | rfl <;> rcases this with rfl | rfl | rfl | rfl | rfl | rfl | rfl <;> rfl
theorem nT0 {t : Nat} (ht : t < 6) : SC.2.1 (6 + 4 * t) = 4 := c6 (P := fun t => SC.2.1 (6 + 4 * t) = 4) ht rfl rfl rfl rfl rfl rfl
theorem nT1 {t : Nat} (ht : t < 6) : SC.2.1 (6 + 4 * t + 1) = 160 := c6 (P := fun t => SC.2.1 (6 + 4 * t + 1) = 160) ht rfl rfl rfl rfl rfl rfl
theorem nT2 {t : Nat} (ht : t < 6) : SC.2.1 (6 + 4 * t + 2) = 3 := c6 (P := fun t => SC.2.1 (6 + 4 * t + 2) = 3) ht rfl rfl rfl rfl rfl rfl
theorem nT3 {t : Nat} (ht : t < 6) : SC.2.1 (6 + 4 * t + 3) = 160 := c6 (P := fun t => SC.2.1 (6 + 4 * t + 3) = 160) ht rfl rfl rfl rfl rfl rfl
theorem nS0 {t : Nat} (ht : t < 4) : SC.2.1 (30 + 2 * t) = 3 := c4 (P := fun t => SC.2.1 (30 + 2 * t) = 3) ht rfl rfl rfl rfl
theorem nS1 {t : Nat} (ht : t < 4) : SC.2.1 (30 + 2 * t + 1) = 40 := c4 (P := fun t => SC.2.1 (30 + 2 * t + 1) = 40) ht rfl rfl rfl rfl
def fM (ad : Nat → Nat) (σ : gS) : List Value := [.int (σ 0 0), .ref (ad 1), .ref (ad 2), .ref (ad 3), .ref (ad 4), .ref (ad 5), .int (σ 0 6), .ref (ad 6), .ref (ad 7), .int (σ 0 9), .int (σ 0 10), .int (σ 0 11), .ref (ad 8), .ref (ad 9), .ref (ad 10), .ref (ad 11), .ref (ad 12), .ref (ad 13), .int (σ 0 18), .int (σ 0 19), .int (σ 0 20), .int (σ 0 21), .ref (ad 14), .ref (ad 15), .int (σ 0 24), .int (σ 0 25), .int (σ 0 26), .ref (ad 16), .ref (ad 17), .ref (ad 18), .ref (ad 19), .int (σ 0 31)]
def SMn : Nat → Nat := fun k => [32, 6, 6, 24, 13, 160, 1200, 24, 37, 2, 4, 4, 160, 34, 96, 200, 200, 6, 27, 9].getD k 0
def mWords : List Int32 := [99, 117, 114, 105, 111, 117, 115, 32, 100, 114, 101, 97, 100, 115, 32, 32, 103, 111, 101, 115, 32, 32, 32, 32, 98, 97, 100, 32, 32, 32, 32, 32, 99, 111, 114, 110, 101, 114, 32, 32, 107, 110, 111, 119, 110, 32, 32, 32, 119, 97, 110, 116, 101, 100, 32, 32, 104, 111, 117, 114, 32, 32, 32, 32, 109, 111, 114, 101, 32, 32, 32, 32, 111, 114, 32, 32, 32, 32, 32, 32, 97, 110, 100, 32, 32, 32, 32, 32, 110, 111, 116, 32, 32, 32, 32, 32]
def mWordF : Nat → Int32 := fun j => mWords.getD j 0
def SMent : gEnt := fun cA ad σ k => if k = 0 then .inr (11, fM ad σ) else if k = 14 then .inl (cA 0, 96, .inl mWordF) else .inl (cA 0, SMn k, .inl (σ k))
def SM : gSd := (20, SMn, SMent, fun _ _ _ _ => True)
theorem SM_ok : gOk SM := by
  refine ⟨fun _ _ _ _ _ _ _ => trivial, fun _ _ _ _ _ _ _ => trivial, fun _ _ _ _ _ _ _ => trivial, ?_⟩
  intro cA ad σ σ' k h
  show SMent cA ad σ k = SMent cA ad σ' k
  unfold SMent fM
  by_cases h0 : k = 0
  · subst h0
    simp only [h]
  by_cases h14 : k = 14
  · subst h14
    rfl
  simp only [h, h0, h14, if_false]
theorem eM (cA : Nat → ClassId) (ad : Nat → Nat) (σ : gS) : SM.2.2.1 cA ad σ 0 = .inr (11, fM ad σ) := rfl
theorem eMk {k : Nat} (h : k ≠ 0 ∧ k ≠ 14) (cA : Nat → ClassId) (ad : Nat → Nat) (σ : gS) : SM.2.2.1 cA ad σ k = .inl (cA 0, SMn k, .inl (σ k)) := by
  show SMent cA ad σ k = _
  unfold SMent
  rw [if_neg h.1, if_neg h.2]
theorem eM14 (cA : Nat → ClassId) (ad : Nat → Nat) (σ : gS) : SM.2.2.1 cA ad σ 14 = .inl (cA 0, 96, .inl mWordF) := rfl
