theorem k_X10_text (d : Nat) (TX : gTX) (P B s : gS) (hR0 : RC TX P B s) : gMt SC yX10_text cX10_text 2 (some .int) (d + 45) (fun ad => [.ref (ad 0)]) s (gQi SC (fun r s' => RC (s_teT TX B) P (s_teB B) s' ∧ r = s_teR B)) := by
  obtain ⟨nT, n, l, h⟩ := hR0
  obtain ⟨e, he160, he⟩ := h.2.2.2.1
  have hz : s 3 1 = nI e := by rw [← he, ← h.2.1]; rfl
  refine c_X10_text d s nT e (by rw [← h.2.2.1, ← h.2.1]; rfl) h.1.2.2.1.2.2.2.2.1 hz he160 (fun j hj => ?_) _ (fun r s' hp => Rc_te h he he160 hp)
  obtain ⟨v, hv, e1⟩ := h.2.2.2.2.1 j
  refine ⟨v, hv, e1.symm.trans ?_ |>.symm⟩
  rw [← h.2.1]
  show (if j < (s 3 1).toNatClampNeg then s 4 j else 0) = s 4 j
  rw [hz, nI_clamp (by omega), if_pos hj]
