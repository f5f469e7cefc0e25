theorem g_cpyG {f g : Nat → Int32} {n : Nat} (hf : ∀ j, n ≤ j → f j = 0) (hg : ∀ j, n ≤ j → g j = 0) : va_cpy f g 0 0 n = f := by
  funext j
  unfold va_cpy
  by_cases h : j < n
  · rw [if_pos (by omega), show 0 + (j - 0) = j by omega]
  · rw [if_neg (by omega), hg j (by omega), hf j (by omega)]
def mU (u k : Nat) : Prop := u ≤ k ∧ k ≤ u + 8
theorem isW_ne {u v i j : Nat} (hu : isW u) (hv : isW v) (h : u ≠ v) (hi : i < 9) (hj : j < 9) : u + i ≠ v + j := by
  rcases hu with rfl | rfl | rfl <;> rcases hv with rfl | rfl | rfl <;> omega
theorem isW_nm {u v j : Nat} (hu : isW u) (hv : isW v) (h : u ≠ v) (hj : j < 9) : ¬ mU u (v + j) := by
  unfold mU
  rcases hu with rfl | rfl | rfl <;> rcases hv with rfl | rfl | rfl <;> omega
theorem gz_w {s : gS} (hz : gz SC s) {w : Nat} (hw : isW w) {i : Nat} (h1 : 1 < i) (h9 : i < 9) : ∀ j, 6 ≤ j → s (w + i) j = 0 := fun j hj => hz _ j (by rw [nWi hw h1 h9]; exact hj)
theorem gz_e {s : gS} (hz : gz SC s) {w : Nat} (hw : isW w) : ∀ j, 10 ≤ j → s (w + 1) j = 0 := fun j hj => hz _ j (by rw [nW1 hw]; exact hj)
theorem cv_ext {a b : gS} {u v : Nat} (h0 : ∀ j, j < 5 → a u (2 + j) = b v (2 + j)) (h1 : a (u + 1) = b (v + 1)) (h2 : a (u + 2) = b (v + 2)) (h3 : a (u + 3) = b (v + 3)) (h4 : a (u + 4) = b (v + 4)) (h5 : a (u + 5) = b (v + 5)) (h6 : a (u + 6) = b (v + 6)) (h7 : a (u + 7) = b (v + 7)) : cv a u = cv b v := by
  have e : a u 6 = b v 6 := h0 4 (by decide)
  have e0 : (fun j => if j < 5 then a u (2 + j) else 0) = (fun j => if j < 5 then b v (2 + j) else 0) := by
    funext j
    by_cases h : j < 5
    · rw [if_pos h, if_pos h, h0 j h]
    · rw [if_neg h, if_neg h]
  funext k
  unfold cv
  simp only [e, h1, h2, h3, h4, h5, h6, h7]
  rw [e0]
theorem dX9_become_0 : decode cX9_become 0 = .ok (.aload_n 0, 1) := by decide +kernel
theorem dX9_become_1 : decode cX9_become 1 = .ok (.aload_n 1, 1) := by decide +kernel
theorem dX9_become_2 : decode cX9_become 2 = .ok (.getfield 48, 3) := by decide +kernel
theorem dX9_become_5 : decode cX9_become 5 = .ok (.putfield 48, 3) := by decide +kernel
theorem dX9_become_8 : decode cX9_become 8 = .ok (.aload_n 0, 1) := by decide +kernel
theorem dX9_become_9 : decode cX9_become 9 = .ok (.aload_n 1, 1) := by decide +kernel
theorem dX9_become_10 : decode cX9_become 10 = .ok (.getfield 51, 3) := by decide +kernel
theorem dX9_become_13 : decode cX9_become 13 = .ok (.putfield 51, 3) := by decide +kernel
theorem dX9_become_16 : decode cX9_become 16 = .ok (.aload_n 0, 1) := by decide +kernel
theorem dX9_become_17 : decode cX9_become 17 = .ok (.aload_n 1, 1) := by decide +kernel
theorem dX9_become_18 : decode cX9_become 18 = .ok (.getfield 9, 3) := by decide +kernel
theorem dX9_become_21 : decode cX9_become 21 = .ok (.putfield 9, 3) := by decide +kernel
theorem dX9_become_24 : decode cX9_become 24 = .ok (.aload_n 0, 1) := by decide +kernel
theorem dX9_become_25 : decode cX9_become 25 = .ok (.aload_n 1, 1) := by decide +kernel
theorem dX9_become_26 : decode cX9_become 26 = .ok (.getfield 54, 3) := by decide +kernel
theorem dX9_become_29 : decode cX9_become 29 = .ok (.putfield 54, 3) := by decide +kernel
theorem dX9_become_32 : decode cX9_become 32 = .ok (.aload_n 0, 1) := by decide +kernel
theorem dX9_become_33 : decode cX9_become 33 = .ok (.aload_n 1, 1) := by decide +kernel
theorem dX9_become_34 : decode cX9_become 34 = .ok (.getfield 57, 3) := by decide +kernel
theorem dX9_become_37 : decode cX9_become 37 = .ok (.putfield 57, 3) := by decide +kernel
theorem dX9_become_40 : decode cX9_become 40 = .ok (.aload_n 1, 1) := by decide +kernel
theorem dX9_become_41 : decode cX9_become 41 = .ok (.getfield 15, 3) := by decide +kernel
theorem dX9_become_44 : decode cX9_become 44 = .ok (.iconst 0, 1) := by decide +kernel
theorem dX9_become_45 : decode cX9_become 45 = .ok (.aload_n 0, 1) := by decide +kernel
theorem dX9_become_46 : decode cX9_become 46 = .ok (.getfield 15, 3) := by decide +kernel
theorem dX9_become_49 : decode cX9_become 49 = .ok (.iconst 0, 1) := by decide +kernel
theorem dX9_become_50 : decode cX9_become 50 = .ok (.bipush 10, 2) := by decide +kernel
theorem dX9_become_52 : decode cX9_become 52 = .ok (.invokestatic 60, 3) := by decide +kernel
theorem dX9_become_55 : decode cX9_become 55 = .ok (.aload_n 1, 1) := by decide +kernel
theorem dX9_become_56 : decode cX9_become 56 = .ok (.getfield 19, 3) := by decide +kernel
theorem dX9_become_59 : decode cX9_become 59 = .ok (.iconst 0, 1) := by decide +kernel
theorem dX9_become_60 : decode cX9_become 60 = .ok (.aload_n 0, 1) := by decide +kernel
theorem dX9_become_61 : decode cX9_become 61 = .ok (.getfield 19, 3) := by decide +kernel
theorem dX9_become_64 : decode cX9_become 64 = .ok (.iconst 0, 1) := by decide +kernel
theorem dX9_become_65 : decode cX9_become 65 = .ok (.bipush 6, 2) := by decide +kernel
theorem dX9_become_67 : decode cX9_become 67 = .ok (.invokestatic 60, 3) := by decide +kernel
theorem dX9_become_70 : decode cX9_become 70 = .ok (.aload_n 1, 1) := by decide +kernel
theorem dX9_become_71 : decode cX9_become 71 = .ok (.getfield 22, 3) := by decide +kernel
theorem dX9_become_74 : decode cX9_become 74 = .ok (.iconst 0, 1) := by decide +kernel
theorem dX9_become_75 : decode cX9_become 75 = .ok (.aload_n 0, 1) := by decide +kernel
theorem dX9_become_76 : decode cX9_become 76 = .ok (.getfield 22, 3) := by decide +kernel
theorem dX9_become_79 : decode cX9_become 79 = .ok (.iconst 0, 1) := by decide +kernel
theorem dX9_become_80 : decode cX9_become 80 = .ok (.bipush 6, 2) := by decide +kernel
theorem dX9_become_82 : decode cX9_become 82 = .ok (.invokestatic 60, 3) := by decide +kernel
theorem dX9_become_85 : decode cX9_become 85 = .ok (.aload_n 1, 1) := by decide +kernel
theorem dX9_become_86 : decode cX9_become 86 = .ok (.getfield 25, 3) := by decide +kernel
theorem dX9_become_89 : decode cX9_become 89 = .ok (.iconst 0, 1) := by decide +kernel
theorem dX9_become_90 : decode cX9_become 90 = .ok (.aload_n 0, 1) := by decide +kernel
theorem dX9_become_91 : decode cX9_become 91 = .ok (.getfield 25, 3) := by decide +kernel
theorem dX9_become_94 : decode cX9_become 94 = .ok (.iconst 0, 1) := by decide +kernel
theorem dX9_become_95 : decode cX9_become 95 = .ok (.bipush 6, 2) := by decide +kernel
theorem dX9_become_97 : decode cX9_become 97 = .ok (.invokestatic 60, 3) := by decide +kernel
theorem dX9_become_100 : decode cX9_become 100 = .ok (.aload_n 1, 1) := by decide +kernel
theorem dX9_become_101 : decode cX9_become 101 = .ok (.getfield 28, 3) := by decide +kernel
theorem dX9_become_104 : decode cX9_become 104 = .ok (.iconst 0, 1) := by decide +kernel
theorem dX9_become_105 : decode cX9_become 105 = .ok (.aload_n 0, 1) := by decide +kernel
theorem dX9_become_106 : decode cX9_become 106 = .ok (.getfield 28, 3) := by decide +kernel
theorem dX9_become_109 : decode cX9_become 109 = .ok (.iconst 0, 1) := by decide +kernel
theorem dX9_become_110 : decode cX9_become 110 = .ok (.bipush 6, 2) := by decide +kernel
theorem dX9_become_112 : decode cX9_become 112 = .ok (.invokestatic 60, 3) := by decide +kernel
theorem dX9_become_115 : decode cX9_become 115 = .ok (.aload_n 1, 1) := by decide +kernel
theorem dX9_become_116 : decode cX9_become 116 = .ok (.getfield 31, 3) := by decide +kernel
theorem dX9_become_119 : decode cX9_become 119 = .ok (.iconst 0, 1) := by decide +kernel
theorem dX9_become_120 : decode cX9_become 120 = .ok (.aload_n 0, 1) := by decide +kernel
theorem dX9_become_121 : decode cX9_become 121 = .ok (.getfield 31, 3) := by decide +kernel
theorem dX9_become_124 : decode cX9_become 124 = .ok (.iconst 0, 1) := by decide +kernel
theorem dX9_become_125 : decode cX9_become 125 = .ok (.bipush 6, 2) := by decide +kernel
theorem dX9_become_127 : decode cX9_become 127 = .ok (.invokestatic 60, 3) := by decide +kernel
theorem dX9_become_130 : decode cX9_become 130 = .ok (.aload_n 1, 1) := by decide +kernel
theorem dX9_become_131 : decode cX9_become 131 = .ok (.getfield 34, 3) := by decide +kernel
theorem dX9_become_134 : decode cX9_become 134 = .ok (.iconst 0, 1) := by decide +kernel
theorem dX9_become_135 : decode cX9_become 135 = .ok (.aload_n 0, 1) := by decide +kernel
theorem dX9_become_136 : decode cX9_become 136 = .ok (.getfield 34, 3) := by decide +kernel
theorem dX9_become_139 : decode cX9_become 139 = .ok (.iconst 0, 1) := by decide +kernel
theorem dX9_become_140 : decode cX9_become 140 = .ok (.bipush 6, 2) := by decide +kernel
theorem dX9_become_142 : decode cX9_become 142 = .ok (.invokestatic 60, 3) := by decide +kernel
theorem dX9_become_145 : decode cX9_become 145 = .ok (.return_, 1) := by decide +kernel
set_option maxHeartbeats 4000000 in
set_option maxRecDepth 100000 in
theorem c_X9_become (d : Nat) (u v : Nat) (hu : isW u) (hv : isW v) (hne : u ≠ v) (s : gS) : gMt SC yX9_become cX9_become 2 none (d + 1) (fun ad => [.ref (ad u), .ref (ad v)]) s (gQv SC (fun s' => Fr (mU u) s s' ∧ cv s' u = cv s v)) := by
  refine gMt_of SC_ok (by decide +kernel) (fun ad => [some (.ref (ad u)), some (.ref (ad v))]) (fun _ => rfl) (fun _ => rfl) (fun _ => Nat.le_of_ble_eq_true rfl) (fun E C0 => ?_)
  have C : gCx SC E RX9 cX9_become 2 none (d + 1) := C0
  have f : Fr (mU u) s s := Fr.rf
  refine G_gz (fun hz => ?_)
  refine G_aload_n (i := 0) C 1 dX9_become_0 rfl rfl rfl ?_
  refine G_aload_n (i := 1) C 2 dX9_become_1 rfl rfl rfl ?_
  refine X9_48g C hv 5 dX9_become_2 rfl (fun x2 ex2 => ?_)
  refine X9_48p C hu 8 dX9_become_5 rfl (fun s5 es5 => ?_)
  have f_1 : Fr (mU u) s s5 := Fr.tr f (Fr.up es5 (by unfold mU; omega))
  refine G_aload_n (i := 0) C 9 dX9_become_8 rfl rfl rfl ?_
  refine G_aload_n (i := 1) C 10 dX9_become_9 rfl rfl rfl ?_
  refine X9_51g C hv 13 dX9_become_10 rfl (fun x10 ex10 => ?_)
  refine X9_51p C hu 16 dX9_become_13 rfl (fun s13 es13 => ?_)
  have f_2 : Fr (mU u) s s13 := Fr.tr f_1 (Fr.up es13 (by unfold mU; omega))
  refine G_aload_n (i := 0) C 17 dX9_become_16 rfl rfl rfl ?_
  refine G_aload_n (i := 1) C 18 dX9_become_17 rfl rfl rfl ?_
  refine X9_9g C hv 21 dX9_become_18 rfl (fun x18 ex18 => ?_)
  refine X9_9p C hu 24 dX9_become_21 rfl (fun s21 es21 => ?_)
  have f_3 : Fr (mU u) s s21 := Fr.tr f_2 (Fr.up es21 (by unfold mU; omega))
  refine G_aload_n (i := 0) C 25 dX9_become_24 rfl rfl rfl ?_
  refine G_aload_n (i := 1) C 26 dX9_become_25 rfl rfl rfl ?_
  refine X9_54g C hv 29 dX9_become_26 rfl (fun x26 ex26 => ?_)
  refine X9_54p C hu 32 dX9_become_29 rfl (fun s29 es29 => ?_)
  have f_4 : Fr (mU u) s s29 := Fr.tr f_3 (Fr.up es29 (by unfold mU; omega))
  refine G_aload_n (i := 0) C 33 dX9_become_32 rfl rfl rfl ?_
  refine G_aload_n (i := 1) C 34 dX9_become_33 rfl rfl rfl ?_
  refine X9_57g C hv 37 dX9_become_34 rfl (fun x34 ex34 => ?_)
  refine X9_57p C hu 40 dX9_become_37 rfl (fun s37 es37 => ?_)
  have f_5 : Fr (mU u) s s37 := Fr.tr f_4 (Fr.up es37 (by unfold mU; omega))
  refine G_aload_n (i := 1) C 41 dX9_become_40 rfl rfl rfl ?_
  refine X9_15g C hv 44 dX9_become_41 rfl ?_
  refine G_iconst (v := 0) C 45 dX9_become_44 rfl rfl ?_
  refine G_aload_n (i := 0) C 46 dX9_become_45 rfl rfl rfl ?_
  refine X9_15g C hu 49 dX9_become_46 rfl ?_
  refine G_iconst (v := 0) C 50 dX9_become_49 rfl rfl ?_
  refine G_bipush (v := 10) C 52 dX9_become_50 rfl rfl ?_
  refine G_copy (n0 := 10) (n1 := 10) C 55 w_636 (by omega) (lW hv (by decide)) (lW hu (by decide)) (eWe _ _ _ hv) (fun σ => eWe _ _ σ hu) (0) (0) (10) rfl rfl rfl (by omega) (by omega) (by decide) (by decide) (Nat.le_of_eq (nW1 hu).symm) (Nat.le_of_ble_eq_true rfl) rfl dX9_become_52 rfl (fun s52 es52 => ?_)
  have f_6 : Fr (mU u) s s52 := Fr.tr f_5 (fun a ha => by rw [es52]; exact g_set_n _ _ (fun q => ha (by rw [q]; unfold mU; omega)))
  refine G_aload_n (i := 1) C 56 dX9_become_55 rfl rfl rfl ?_
  refine X9_19g C hv 59 dX9_become_56 rfl ?_
  refine G_iconst (v := 0) C 60 dX9_become_59 rfl rfl ?_
  refine G_aload_n (i := 0) C 61 dX9_become_60 rfl rfl rfl ?_
  refine X9_19g C hu 64 dX9_become_61 rfl ?_
  refine G_iconst (v := 0) C 65 dX9_become_64 rfl rfl ?_
  refine G_bipush (v := 6) C 67 dX9_become_65 rfl rfl ?_
  refine G_copy (n0 := 6) (n1 := 6) C 70 w_636 (by omega) (lW hv (by decide)) (lW hu (by decide)) (eW2 _ _ _ hv) (fun σ => eW2 _ _ σ hu) (0) (0) (6) rfl rfl rfl (by omega) (by omega) (by decide) (by decide) (Nat.le_of_eq (nWi hu (by decide) (by decide)).symm) (Nat.le_of_ble_eq_true rfl) rfl dX9_become_67 rfl (fun s67 es67 => ?_)
  have f_7 : Fr (mU u) s s67 := Fr.tr f_6 (fun a ha => by rw [es67]; exact g_set_n _ _ (fun q => ha (by rw [q]; unfold mU; omega)))
  refine G_aload_n (i := 1) C 71 dX9_become_70 rfl rfl rfl ?_
  refine X9_22g C hv 74 dX9_become_71 rfl ?_
  refine G_iconst (v := 0) C 75 dX9_become_74 rfl rfl ?_
  refine G_aload_n (i := 0) C 76 dX9_become_75 rfl rfl rfl ?_
  refine X9_22g C hu 79 dX9_become_76 rfl ?_
  refine G_iconst (v := 0) C 80 dX9_become_79 rfl rfl ?_
  refine G_bipush (v := 6) C 82 dX9_become_80 rfl rfl ?_
  refine G_copy (n0 := 6) (n1 := 6) C 85 w_636 (by omega) (lW hv (by decide)) (lW hu (by decide)) (eW3 _ _ _ hv) (fun σ => eW3 _ _ σ hu) (0) (0) (6) rfl rfl rfl (by omega) (by omega) (by decide) (by decide) (Nat.le_of_eq (nWi hu (by decide) (by decide)).symm) (Nat.le_of_ble_eq_true rfl) rfl dX9_become_82 rfl (fun s82 es82 => ?_)
  have f_8 : Fr (mU u) s s82 := Fr.tr f_7 (fun a ha => by rw [es82]; exact g_set_n _ _ (fun q => ha (by rw [q]; unfold mU; omega)))
  refine G_aload_n (i := 1) C 86 dX9_become_85 rfl rfl rfl ?_
  refine X9_25g C hv 89 dX9_become_86 rfl ?_
  refine G_iconst (v := 0) C 90 dX9_become_89 rfl rfl ?_
  refine G_aload_n (i := 0) C 91 dX9_become_90 rfl rfl rfl ?_
  refine X9_25g C hu 94 dX9_become_91 rfl ?_
  refine G_iconst (v := 0) C 95 dX9_become_94 rfl rfl ?_
  refine G_bipush (v := 6) C 97 dX9_become_95 rfl rfl ?_
  refine G_copy (n0 := 6) (n1 := 6) C 100 w_636 (by omega) (lW hv (by decide)) (lW hu (by decide)) (eW4 _ _ _ hv) (fun σ => eW4 _ _ σ hu) (0) (0) (6) rfl rfl rfl (by omega) (by omega) (by decide) (by decide) (Nat.le_of_eq (nWi hu (by decide) (by decide)).symm) (Nat.le_of_ble_eq_true rfl) rfl dX9_become_97 rfl (fun s97 es97 => ?_)
  have f_9 : Fr (mU u) s s97 := Fr.tr f_8 (fun a ha => by rw [es97]; exact g_set_n _ _ (fun q => ha (by rw [q]; unfold mU; omega)))
  refine G_aload_n (i := 1) C 101 dX9_become_100 rfl rfl rfl ?_
  refine X9_28g C hv 104 dX9_become_101 rfl ?_
  refine G_iconst (v := 0) C 105 dX9_become_104 rfl rfl ?_
  refine G_aload_n (i := 0) C 106 dX9_become_105 rfl rfl rfl ?_
  refine X9_28g C hu 109 dX9_become_106 rfl ?_
  refine G_iconst (v := 0) C 110 dX9_become_109 rfl rfl ?_
  refine G_bipush (v := 6) C 112 dX9_become_110 rfl rfl ?_
  refine G_copy (n0 := 6) (n1 := 6) C 115 w_636 (by omega) (lW hv (by decide)) (lW hu (by decide)) (eW5 _ _ _ hv) (fun σ => eW5 _ _ σ hu) (0) (0) (6) rfl rfl rfl (by omega) (by omega) (by decide) (by decide) (Nat.le_of_eq (nWi hu (by decide) (by decide)).symm) (Nat.le_of_ble_eq_true rfl) rfl dX9_become_112 rfl (fun s112 es112 => ?_)
  have f_10 : Fr (mU u) s s112 := Fr.tr f_9 (fun a ha => by rw [es112]; exact g_set_n _ _ (fun q => ha (by rw [q]; unfold mU; omega)))
  refine G_aload_n (i := 1) C 116 dX9_become_115 rfl rfl rfl ?_
  refine X9_31g C hv 119 dX9_become_116 rfl ?_
  refine G_iconst (v := 0) C 120 dX9_become_119 rfl rfl ?_
  refine G_aload_n (i := 0) C 121 dX9_become_120 rfl rfl rfl ?_
  refine X9_31g C hu 124 dX9_become_121 rfl ?_
  refine G_iconst (v := 0) C 125 dX9_become_124 rfl rfl ?_
  refine G_bipush (v := 6) C 127 dX9_become_125 rfl rfl ?_
  refine G_copy (n0 := 6) (n1 := 6) C 130 w_636 (by omega) (lW hv (by decide)) (lW hu (by decide)) (eW6 _ _ _ hv) (fun σ => eW6 _ _ σ hu) (0) (0) (6) rfl rfl rfl (by omega) (by omega) (by decide) (by decide) (Nat.le_of_eq (nWi hu (by decide) (by decide)).symm) (Nat.le_of_ble_eq_true rfl) rfl dX9_become_127 rfl (fun s127 es127 => ?_)
  have f_11 : Fr (mU u) s s127 := Fr.tr f_10 (fun a ha => by rw [es127]; exact g_set_n _ _ (fun q => ha (by rw [q]; unfold mU; omega)))
  refine G_aload_n (i := 1) C 131 dX9_become_130 rfl rfl rfl ?_
  refine X9_34g C hv 134 dX9_become_131 rfl ?_
  refine G_iconst (v := 0) C 135 dX9_become_134 rfl rfl ?_
  refine G_aload_n (i := 0) C 136 dX9_become_135 rfl rfl rfl ?_
  refine X9_34g C hu 139 dX9_become_136 rfl ?_
  refine G_iconst (v := 0) C 140 dX9_become_139 rfl rfl ?_
  refine G_bipush (v := 6) C 142 dX9_become_140 rfl rfl ?_
  refine G_copy (n0 := 6) (n1 := 6) C 145 w_636 (by omega) (lW hv (by decide)) (lW hu (by decide)) (eW7 _ _ _ hv) (fun σ => eW7 _ _ σ hu) (0) (0) (6) rfl rfl rfl (by omega) (by omega) (by decide) (by decide) (Nat.le_of_eq (nWi hu (by decide) (by decide)).symm) (Nat.le_of_ble_eq_true rfl) rfl dX9_become_142 rfl (fun s142 es142 => ?_)
  have f_12 : Fr (mU u) s s142 := Fr.tr f_11 (fun a ha => by rw [es142]; exact g_set_n _ _ (fun q => ha (by rw [q]; unfold mU; omega)))
  exact G_vret C dX9_become_145 (by
      refine ⟨f_12, cv_ext (fun j hj => ?_) ?_ ?_ ?_ ?_ ?_ ?_ ?_⟩
      · rw [es142, g_set_n _ _ (by omega), es127, g_set_n _ _ (by omega), es112, g_set_n _ _ (by omega), es97, g_set_n _ _ (by omega), es82, g_set_n _ _ (by omega), es67, g_set_n _ _ (by omega), es52, g_set_n _ _ (by omega), es37]
        have : j = 0 ∨ j = 1 ∨ j = 2 ∨ j = 3 ∨ j = 4 := by omega
        rcases this with rfl | rfl | rfl | rfl | rfl <;> simp [g_up, g_set, upd, ex2, ex10, ex18, ex26, ex34, es5, es13, es21, es29, hne.symm]
      · have ev : s37 (v + 1) = s (v + 1) := f_5 _ (isW_nm hu hv hne (by decide))
        have eu : s37 (u + 1) = s (u + 1) := by rw [es37, g_up_n (by omega), es29, g_up_n (by omega), es21, g_up_n (by omega), es13, g_up_n (by omega), es5, g_up_n (by omega)]
        rw [es142, g_set_n _ _ (by omega), es127, g_set_n _ _ (by omega), es112, g_set_n _ _ (by omega), es97, g_set_n _ _ (by omega), es82, g_set_n _ _ (by omega), es67, g_set_n _ _ (by omega), es52, g_set_s, ev, eu]
        exact g_cpyG (gz_e hz hv) (gz_e hz hu)
      · have ev : s52 (v + 2) = s (v + 2) := f_6 _ (isW_nm hu hv hne (by decide))
        have eu : s52 (u + 2) = s (u + 2) := by rw [es52, g_set_n _ _ (by omega), es37, g_up_n (by omega), es29, g_up_n (by omega), es21, g_up_n (by omega), es13, g_up_n (by omega), es5, g_up_n (by omega)]
        rw [es142, g_set_n _ _ (by omega), es127, g_set_n _ _ (by omega), es112, g_set_n _ _ (by omega), es97, g_set_n _ _ (by omega), es82, g_set_n _ _ (by omega), es67, g_set_s, ev, eu]
        exact g_cpyG (gz_w hz hv (by decide) (by decide)) (gz_w hz hu (by decide) (by decide))
      · have ev : s67 (v + 3) = s (v + 3) := f_7 _ (isW_nm hu hv hne (by decide))
        have eu : s67 (u + 3) = s (u + 3) := by rw [es67, g_set_n _ _ (by omega), es52, g_set_n _ _ (by omega), es37, g_up_n (by omega), es29, g_up_n (by omega), es21, g_up_n (by omega), es13, g_up_n (by omega), es5, g_up_n (by omega)]
        rw [es142, g_set_n _ _ (by omega), es127, g_set_n _ _ (by omega), es112, g_set_n _ _ (by omega), es97, g_set_n _ _ (by omega), es82, g_set_s, ev, eu]
        exact g_cpyG (gz_w hz hv (by decide) (by decide)) (gz_w hz hu (by decide) (by decide))
      · have ev : s82 (v + 4) = s (v + 4) := f_8 _ (isW_nm hu hv hne (by decide))
        have eu : s82 (u + 4) = s (u + 4) := by rw [es82, g_set_n _ _ (by omega), es67, g_set_n _ _ (by omega), es52, g_set_n _ _ (by omega), es37, g_up_n (by omega), es29, g_up_n (by omega), es21, g_up_n (by omega), es13, g_up_n (by omega), es5, g_up_n (by omega)]
        rw [es142, g_set_n _ _ (by omega), es127, g_set_n _ _ (by omega), es112, g_set_n _ _ (by omega), es97, g_set_s, ev, eu]
        exact g_cpyG (gz_w hz hv (by decide) (by decide)) (gz_w hz hu (by decide) (by decide))
      · have ev : s97 (v + 5) = s (v + 5) := f_9 _ (isW_nm hu hv hne (by decide))
        have eu : s97 (u + 5) = s (u + 5) := by rw [es97, g_set_n _ _ (by omega), es82, g_set_n _ _ (by omega), es67, g_set_n _ _ (by omega), es52, g_set_n _ _ (by omega), es37, g_up_n (by omega), es29, g_up_n (by omega), es21, g_up_n (by omega), es13, g_up_n (by omega), es5, g_up_n (by omega)]
        rw [es142, g_set_n _ _ (by omega), es127, g_set_n _ _ (by omega), es112, g_set_s, ev, eu]
        exact g_cpyG (gz_w hz hv (by decide) (by decide)) (gz_w hz hu (by decide) (by decide))
      · have ev : s112 (v + 6) = s (v + 6) := f_10 _ (isW_nm hu hv hne (by decide))
        have eu : s112 (u + 6) = s (u + 6) := by rw [es112, g_set_n _ _ (by omega), es97, g_set_n _ _ (by omega), es82, g_set_n _ _ (by omega), es67, g_set_n _ _ (by omega), es52, g_set_n _ _ (by omega), es37, g_up_n (by omega), es29, g_up_n (by omega), es21, g_up_n (by omega), es13, g_up_n (by omega), es5, g_up_n (by omega)]
        rw [es142, g_set_n _ _ (by omega), es127, g_set_s, ev, eu]
        exact g_cpyG (gz_w hz hv (by decide) (by decide)) (gz_w hz hu (by decide) (by decide))
      · have ev : s127 (v + 7) = s (v + 7) := f_11 _ (isW_nm hu hv hne (by decide))
        have eu : s127 (u + 7) = s (u + 7) := by rw [es127, g_set_n _ _ (by omega), es112, g_set_n _ _ (by omega), es97, g_set_n _ _ (by omega), es82, g_set_n _ _ (by omega), es67, g_set_n _ _ (by omega), es52, g_set_n _ _ (by omega), es37, g_up_n (by omega), es29, g_up_n (by omega), es21, g_up_n (by omega), es13, g_up_n (by omega), es5, g_up_n (by omega)]
        rw [es142, g_set_s, ev, eu]
        exact g_cpyG (gz_w hz hv (by decide) (by decide)) (gz_w hz hu (by decide) (by decide)))
