/-! ===== the invariant, and the methods that are read off at once ===== -/
/-- a State of the class at o, and a row of the model's at q from off on -/
def iSt (μ : zM) (n m o q off : Nat) : Prop := (∀ i, lv n m i → μ (o + 1) i = μ q (off + i)) ∧ rOk n m (μ (o + 1)) ∧ μ o 1 = μ q (off + 30) ∧ μ o 2 = μ q (off + 31) ∧ μ o 3 = μ q (off + 32)
def iHouse (μ : zM) (n m t : Nat) (u : Int) : Prop := zHs μ n m t u ∧ zMs μ n m t u ∧ μ 1 10 = μ 110 4 ∧ (∀ i, lv n m i → μ 2 i = μ 111 i) ∧ rOk n m (μ 2) ∧ (∀ k, k < t → μ 3 k = μ 112 k ∧ μ 4 k = μ 113 k) ∧ (0 < m → 2 ≤ n)
def iText (μ : zM) : Prop := ∃ L : Nat, L ≤ 240 ∧ μ 8 2 = L ∧ μ 110 11 = L ∧ ∀ i, i < L → μ 16 i = μ 115 i ∧ 0 ≤ μ 16 i ∧ μ 16 i ≤ 255
def iMisc (μ : zM) : Prop := μ 0 15 = μ 110 12 ∧ μ 0 14 = μ 110 9 ∧ 0 ≤ μ 0 14
def iNotes (μ : zM) (n m o ca aa sf mc ma cap : Nat) : Prop := ∃ s : Nat, s ≤ cap ∧ μ o 3 = s ∧ μ 110 sf = s ∧ μ o 2 = cap ∧ (∀ k, k < s → μ ca k = μ mc k ∧ μ aa k = μ ma k ∧ 0 ≤ μ ca k ∧ μ ca k < 30) ∧ ∀ k, k < s → lv n m (μ ca k).toNat
def iImg (μ : zM) (n m : Nat) : Prop := (∃ K : Nat, K < 4 ∧ μ 0 13 = K) ∧ ∀ i : Nat, i < 2 → (μ 130 i = 0 ∨ μ 130 i = 1) ∧ (zbit (μ 0 13) i = 1 ↔ μ 130 i = 1) ∧ (μ 130 i = 1 → iSt μ n m (106 + 2 * i) 129 (34 * i) ∧ μ 103 i = μ 129 (34 * i + 33) ∧ 0 ≤ μ 103 i)
def iHis (μ : zM) (n m : Nat) : Prop := ∃ z x : Nat, z ≤ 20 ∧ x < 20 ∧ μ 54 2 = z ∧ μ 110 26 = z ∧ μ 54 1 = x ∧ ∀ j, j < z → iSt μ n m (56 + 2 * ((x + 20 - z + j) % 20)) 120 (33 * j)
def zInv (μ : zM) (n m t : Nat) (u : Int) : Prop := iHouse μ n m t u ∧ iSt μ n m 52 114 0 ∧ iText μ ∧ iMisc μ ∧ iNotes μ n m 96 97 98 33 124 125 8 ∧ iNotes μ n m 99 100 101 37 127 128 15 ∧ iImg μ n m ∧ iHis μ n m
def zGood (μ : zM) : Prop := ∃ (n m t : Nat) (u : Int), zInv μ n m t u
def zPair (y : MethodName) (cy : ByteArray) (ny : Nat) (y' : MethodName) (cy' : ByteArray) (ny' : Nat) (as : List zV) (μ : zM) : Prop := zMet 20 0 y cy ny (some .int) TF μ (zR 0 :: as) (zPi (fun v μ1 => zMet 20 0 y' cy' ny' (some .int) TF μ1 (zR 110 :: as) (zPi (fun w μ2 => v = w ∧ zGood μ2))))
/-- scratch cells of the class -/
def cScr (k : Nat) : Prop := k = 5 ∨ k = 6 ∨ k = 7 ∨ (17 ≤ k ∧ k ≤ 51) ∨ k = 104 ∨ k = 105
def qC (μ ν : zM) : Prop := ∀ k, ¬ cScr k → ν k = μ k
def qM (μ ν : zM) : Prop := (∀ k, k ≠ 110 → k ≠ 119 → k ≠ 121 → k ≠ 122 → k ≠ 123 → k ≠ 126 → ν k = μ k) ∧ ∀ i, i ≠ 30 → i ≠ 31 → ν 110 i = μ 110 i
theorem qC.refl (μ : zM) : qC μ μ := fun _ _ => rfl
theorem qM.refl (μ : zM) : qM μ μ := ⟨fun _ _ _ _ _ _ _ => rfl, fun _ _ _ => rfl⟩
theorem iSt.keep {μ ν : zM} {n m o q off : Nat} (h : iSt μ n m o q off) (h1 : ν o = μ o) (h2 : ν (o + 1) = μ (o + 1)) (h3 : ν q = μ q) : iSt ν n m o q off := by
  unfold iSt at *
  rw [h1, h2, h3]
  exact h
theorem iNotes.keep {μ ν : zM} {n m o ca aa sf mc ma cap : Nat} (h : iNotes μ n m o ca aa sf mc ma cap) (h1 : ν o = μ o) (h2 : ν ca = μ ca) (h3 : ν aa = μ aa) (h4 : ν mc = μ mc) (h5 : ν ma = μ ma) (h6 : ν 110 sf = μ 110 sf) : iNotes ν n m o ca aa sf mc ma cap := by
  unfold iNotes at *
  rw [h1, h2, h3, h4, h5, h6]
  exact h
theorem iImg.keep {μ ν : zM} {n m : Nat} (h : iImg μ n m) (h0 : ν 0 13 = μ 0 13) (h1 : ν 130 = μ 130) (h2 : ν 129 = μ 129) (h3 : ν 103 = μ 103) (h4 : ∀ k, 106 ≤ k → k ≤ 109 → ν k = μ k) : iImg ν n m := by
  unfold iImg at *
  rw [h0, h1, h2, h3]
  refine ⟨h.1, fun i hi => ⟨(h.2 i hi).1, (h.2 i hi).2.1, fun q => ?_⟩⟩
  obtain ⟨a, b, c⟩ := (h.2 i hi).2.2 q
  exact ⟨a.keep (h4 _ (by omega) (by omega)) (h4 _ (by omega) (by omega)) h2, b, c⟩
theorem iHis.keep {μ ν : zM} {n m : Nat} (h : iHis μ n m) (h0 : ν 54 = μ 54) (h1 : ν 110 26 = μ 110 26) (h2 : ν 120 = μ 120) (h4 : ∀ k, 56 ≤ k → k ≤ 95 → ν k = μ k) : iHis ν n m := by
  obtain ⟨z, x, a1, a2, a3, a4, a5, a6⟩ := h
  refine ⟨z, x, a1, a2, by rw [h0]; exact a3, by rw [h1]; exact a4, by rw [h0]; exact a5, fun j hj => ?_⟩
  have h20 : (x + 20 - z + j) % 20 < 20 := Nat.mod_lt _ (by decide)
  exact (a6 j hj).keep (h4 _ (by omega) (by omega)) (h4 _ (by omega) (by omega)) h2
theorem zInv.qC {μ ν : zM} {n m t : Nat} {u : Int} (h : zInv μ n m t u) (hq : qC μ ν) : zInv ν n m t u := by
  have k0 : ∀ k, ¬ cScr k → ν k = μ k := hq
  unfold cScr at k0
  obtain ⟨hh, hs, ht, hm, h1, h2, h3, h4⟩ := h
  refine ⟨?_, hs.keep (k0 _ (by omega)) (k0 _ (by omega)) (k0 _ (by omega)), ?_, ?_, h1.keep (k0 _ (by omega)) (k0 _ (by omega)) (k0 _ (by omega)) (k0 _ (by omega)) (k0 _ (by omega)) (by rw [k0 110 (by omega)]), h2.keep (k0 _ (by omega)) (k0 _ (by omega)) (k0 _ (by omega)) (k0 _ (by omega)) (k0 _ (by omega)) (by rw [k0 110 (by omega)]), h3.keep (by rw [k0 0 (by omega)]) (k0 _ (by omega)) (k0 _ (by omega)) (k0 _ (by omega)) (fun k _ _ => k0 k (by omega)), h4.keep (k0 _ (by omega)) (by rw [k0 110 (by omega)]) (k0 _ (by omega)) (fun k _ _ => k0 k (by omega))⟩
  · obtain ⟨a1, a2, a3⟩ := hh
    refine ⟨a1.keep (k0 _ (by omega)) (k0 _ (by omega)) (k0 _ (by omega)), a2.keep (k0 _ (by omega)) (k0 _ (by omega)) (k0 _ (by omega)), ?_⟩
    rw [k0 1 (by omega), k0 110 (by omega), k0 2 (by omega), k0 111 (by omega), k0 3 (by omega), k0 112 (by omega), k0 4 (by omega), k0 113 (by omega)]
    exact a3
  · unfold iText at *
    rw [k0 8 (by omega), k0 110 (by omega), k0 16 (by omega), k0 115 (by omega)]
    exact ht
  · unfold iMisc at *
    rw [k0 0 (by omega), k0 110 (by omega)]
    exact hm
theorem zInv.qM {μ ν : zM} {n m t : Nat} {u : Int} (h : zInv μ n m t u) (hq : qM μ ν) : zInv ν n m t u := by
  obtain ⟨k0, k1⟩ := hq
  obtain ⟨hh, hs, ht, hm, h1, h2, h3, h4⟩ := h
  have k : ∀ k, (k < 110 ∨ (110 < k ∧ k < 119) ∨ k = 120 ∨ k = 124 ∨ k = 125 ∨ 127 ≤ k) → ν k = μ k := fun k h => k0 k (by omega) (by omega) (by omega) (by omega) (by omega) (by omega)
  refine ⟨?_, hs.keep (k _ (by omega)) (k _ (by omega)) (k _ (by omega)), ?_, ?_, h1.keep (k _ (by omega)) (k _ (by omega)) (k _ (by omega)) (k _ (by omega)) (k _ (by omega)) (k1 _ (by decide) (by decide)), h2.keep (k _ (by omega)) (k _ (by omega)) (k _ (by omega)) (k _ (by omega)) (k _ (by omega)) (k1 _ (by decide) (by decide)), h3.keep (by rw [k 0 (by omega)]) (k _ (by omega)) (k _ (by omega)) (k _ (by omega)) (fun j _ _ => k j (by omega)), h4.keep (k _ (by omega)) (k1 _ (by decide) (by decide)) (k _ (by omega)) (fun j _ _ => k j (by omega))⟩
  · obtain ⟨a1, a2, a3⟩ := hh
    refine ⟨a1.keep (k _ (by omega)) (k _ (by omega)) (k _ (by omega)), ?_, ?_⟩
    · unfold zMs at *
      rw [k1 0 (by decide) (by decide), k1 1 (by decide) (by decide), k1 2 (by decide) (by decide), k1 5 (by decide) (by decide), k 112 (by omega), k 113 (by omega)]
      exact a2
    · rw [k 1 (by omega), k1 4 (by decide) (by decide), k 2 (by omega), k 111 (by omega), k 3 (by omega), k 112 (by omega), k 4 (by omega), k 113 (by omega)]
      exact a3
  · unfold iText at *
    rw [k 8 (by omega), k1 11 (by decide) (by decide), k 16 (by omega), k 115 (by omega)]
    exact ht
  · unfold iMisc at *
    rw [k 0 (by omega), k1 12 (by decide) (by decide), k1 9 (by decide) (by decide)]
    exact hm
/-- a question: nothing but scratch changes on either side -/
theorem zPair_q {y : MethodName} {cy : ByteArray} {ny : Nat} {y' : MethodName} {cy' : ByteArray} {ny' : Nat} {as : List zV} {μ : zM} {n m t : Nat} {u : Int} (hI : zInv μ n m t u) (F : Int) (hc : zMet 20 0 y cy ny (some .int) TF μ (zR 0 :: as) (zPi (fun v ν => v = F ∧ qC μ ν))) (hm : ∀ ν, qC μ ν → zInv ν n m t u → zMet 20 0 y' cy' ny' (some .int) TF ν (zR 110 :: as) (zPi (fun w ξ => w = F ∧ qM ν ξ))) : zPair y cy ny y' cy' ny' as μ :=
  zMi_mono hc (fun v ν hv => zMi_mono (hm ν hv.2 (hI.qC hv.2)) (fun w ξ hw => ⟨by rw [hv.1, hw.1], n, m, t, u, (hI.qC hv.2).qM hw.2⟩))
theorem c_X8_fault (d : Nat) (μ : zM)  : zMet (d + 1) 0 yX8_fault cX8_fault 1 (some .int) TF μ [zR 0] (zPi (fun v ν => v = μ 0 15 ∧ μ = ν)) := by
  refine zMi_of RX8 rfl (by decide) rfl (ls := [some (zR 0)]) rfl (fun hok => ?_)
  refine zA_aload_n dX8_fault_0 rfl ?_
  refine zA_getI fX8_84 t_0 dX8_fault_1 ?_
  exact zA_ri dX8_fault_4 ⟨rfl, rfl⟩
theorem c_X9_fault (d : Nat) (μ : zM)  : zMet (d + 1) 0 yX9_fault cX9_fault 1 (some .int) TF μ [zR 110] (zPi (fun v ν => v = μ 110 12 ∧ μ = ν)) := by
  refine zMi_of RX9 rfl (by decide) rfl (ls := [some (zR 110)]) rfl (fun hok => ?_)
  refine zA_aload_n dX9_fault_0 rfl ?_
  refine zA_getI fX9_25 t_110 dX9_fault_1 ?_
  exact zA_ri dX9_fault_4 ⟨rfl, rfl⟩
theorem pr_fault (μ : zM)  (n m t : Nat) (u : Int) (hI : zInv μ n m t u) : zPair yX8_fault cX8_fault 1 yX9_fault cX9_fault 1 [] μ := by
  refine zPair_q hI (μ 110 12) (zMi_mono (c_X8_fault 19 μ) ?_) (fun ν hq hν => zMi_mono (c_X9_fault 19 ν) ?_)
  · rintro v ν ⟨rfl, rfl⟩
    exact ⟨hI.2.2.2.1.1, qC.refl _⟩
  · rintro v ξ ⟨rfl, rfl⟩
    exact ⟨by rw [hq 110 (by unfold cScr; omega)], qM.refl _⟩
theorem c_X8_told (d : Nat) (x : Int) (μ : zM)  : zMet (d + 1) 0 yX8_told cX8_told 2 (some .int) TF μ [zR 0, zI x] (zPi (fun v ν => v = (if x = 0 then μ 1 6 else if x = 1 then μ 1 7 else if x = 2 then μ 1 8 else if x = 3 then μ 1 11 else if x = 4 then μ 8 2 else if x = 5 then μ 52 1 else if x = 6 then μ 1 10 else if x = 7 then μ 52 2 else if x = 8 then μ 52 3 else if x = 9 then μ 96 3 else if x = 10 then μ 99 3 else if x = 11 then μ 54 2 else -1000000002) ∧ μ = ν)) := by
  refine zMi_of RX8 rfl (by decide) rfl (ls := [some (zR 0), some (zI x)]) rfl (fun hok => ?_)
  refine zA_iload_n dX8_told_0 rfl ?_
  have hsw : x = 0 ∨ x = 1 ∨ x = 2 ∨ x = 3 ∨ x = 4 ∨ x = 5 ∨ x = 6 ∨ x = 7 ∨ x = 8 ∨ x = 9 ∨ x = 10 ∨ x = 11 ∨ (x < 0 ∨ 11 < x) := by omega
  rcases hsw with hsw | hsw | hsw | hsw | hsw | hsw | hsw | hsw | hsw | hsw | hsw | hsw | hsw
  · refine zA_tinE (tgt := 64) hsw dX8_told_1 (by decide) (by decide) rfl rfl ?_
    refine zA_aload_n dX8_told_64 rfl ?_
    refine zA_getR fX8_12 t_0 rfl dX8_told_65 ?_
    refine zA_getI fX8_114 t_1 dX8_told_68 ?_
    exact zA_ri dX8_told_71 ⟨by first | (rw [hsw]; rfl) | (repeat rw [if_neg (by omega)]), rfl⟩
  · refine zA_tinE (tgt := 72) hsw dX8_told_1 (by decide) (by decide) rfl rfl ?_
    refine zA_aload_n dX8_told_72 rfl ?_
    refine zA_getR fX8_12 t_0 rfl dX8_told_73 ?_
    refine zA_getI fX8_117 t_1 dX8_told_76 ?_
    exact zA_ri dX8_told_79 ⟨by first | (rw [hsw]; rfl) | (repeat rw [if_neg (by omega)]), rfl⟩
  · refine zA_tinE (tgt := 80) hsw dX8_told_1 (by decide) (by decide) rfl rfl ?_
    refine zA_aload_n dX8_told_80 rfl ?_
    refine zA_getR fX8_12 t_0 rfl dX8_told_81 ?_
    refine zA_getI fX8_111 t_1 dX8_told_84 ?_
    exact zA_ri dX8_told_87 ⟨by first | (rw [hsw]; rfl) | (repeat rw [if_neg (by omega)]), rfl⟩
  · refine zA_tinE (tgt := 88) hsw dX8_told_1 (by decide) (by decide) rfl rfl ?_
    refine zA_aload_n dX8_told_88 rfl ?_
    refine zA_getR fX8_12 t_0 rfl dX8_told_89 ?_
    refine zA_getI fX8_120 t_1 dX8_told_92 ?_
    exact zA_ri dX8_told_95 ⟨by first | (rw [hsw]; rfl) | (repeat rw [if_neg (by omega)]), rfl⟩
  · refine zA_tinE (tgt := 96) hsw dX8_told_1 (by decide) (by decide) rfl rfl ?_
    refine zA_aload_n dX8_told_96 rfl ?_
    refine zA_getR fX8_19 t_0 rfl dX8_told_97 ?_
    refine zA_getI fX8_123 t_8 dX8_told_100 ?_
    exact zA_ri dX8_told_103 ⟨by first | (rw [hsw]; rfl) | (repeat rw [if_neg (by omega)]), rfl⟩
  · refine zA_tinE (tgt := 104) hsw dX8_told_1 (by decide) (by decide) rfl rfl ?_
    refine zA_aload_n dX8_told_104 rfl ?_
    refine zA_getR fX8_47 t_0 rfl dX8_told_105 ?_
    refine zA_getI fX8_126 t_52 dX8_told_108 ?_
    exact zA_ri dX8_told_111 ⟨by first | (rw [hsw]; rfl) | (repeat rw [if_neg (by omega)]), rfl⟩
  · refine zA_tinE (tgt := 112) hsw dX8_told_1 (by decide) (by decide) rfl rfl ?_
    refine zA_aload_n dX8_told_112 rfl ?_
    refine zA_getR fX8_12 t_0 rfl dX8_told_113 ?_
    refine zA_getI fX8_129 t_1 dX8_told_116 ?_
    exact zA_ri dX8_told_119 ⟨by first | (rw [hsw]; rfl) | (repeat rw [if_neg (by omega)]), rfl⟩
  · refine zA_tinE (tgt := 120) hsw dX8_told_1 (by decide) (by decide) rfl rfl ?_
    refine zA_aload_n dX8_told_120 rfl ?_
    refine zA_getR fX8_47 t_0 rfl dX8_told_121 ?_
    refine zA_getI fX8_132 t_52 dX8_told_124 ?_
    exact zA_ri dX8_told_127 ⟨by first | (rw [hsw]; rfl) | (repeat rw [if_neg (by omega)]), rfl⟩
  · refine zA_tinE (tgt := 128) hsw dX8_told_1 (by decide) (by decide) rfl rfl ?_
    refine zA_aload_n dX8_told_128 rfl ?_
    refine zA_getR fX8_47 t_0 rfl dX8_told_129 ?_
    refine zA_getI fX8_135 t_52 dX8_told_132 ?_
    exact zA_ri dX8_told_135 ⟨by first | (rw [hsw]; rfl) | (repeat rw [if_neg (by omega)]), rfl⟩
  · refine zA_tinE (tgt := 136) hsw dX8_told_1 (by decide) (by decide) rfl rfl ?_
    refine zA_aload_n dX8_told_136 rfl ?_
    refine zA_getR fX8_63 t_0 rfl dX8_told_137 ?_
    refine zA_getI fX8_136 t_96 dX8_told_140 ?_
    exact zA_ri dX8_told_143 ⟨by first | (rw [hsw]; rfl) | (repeat rw [if_neg (by omega)]), rfl⟩
  · refine zA_tinE (tgt := 144) hsw dX8_told_1 (by decide) (by decide) rfl rfl ?_
    refine zA_aload_n dX8_told_144 rfl ?_
    refine zA_getR fX8_67 t_0 rfl dX8_told_145 ?_
    refine zA_getI fX8_136 t_99 dX8_told_148 ?_
    exact zA_ri dX8_told_151 ⟨by first | (rw [hsw]; rfl) | (repeat rw [if_neg (by omega)]), rfl⟩
  · refine zA_tinE (tgt := 152) hsw dX8_told_1 (by decide) (by decide) rfl rfl ?_
    refine zA_aload_n dX8_told_152 rfl ?_
    refine zA_getR fX8_54 t_0 rfl dX8_told_153 ?_
    refine zA_getI fX8_139 t_54 dX8_told_156 ?_
    exact zA_ri dX8_told_159 ⟨by first | (rw [hsw]; rfl) | (repeat rw [if_neg (by omega)]), rfl⟩
  · refine zA_tout (tgt := 160) dX8_told_1 hsw rfl ?_
    refine zA_ldc cX8_88 dX8_told_160 rfl ?_
    exact zA_ri dX8_told_162 ⟨by first | (rw [hsw]; rfl) | (repeat rw [if_neg (by omega)]), rfl⟩
theorem c_X9_told (d : Nat) (x : Int) (μ : zM)  : zMet (d + 1) 0 yX9_told cX9_told 2 (some .int) TF μ [zR 110, zI x] (zPi (fun v ν => v = (if x = 0 then μ 110 0 else if x = 1 then μ 110 1 else if x = 2 then μ 110 2 else if x = 3 then μ 110 5 else if x = 4 then μ 110 11 else if x = 5 then μ 114 30 else if x = 6 then μ 110 4 else if x = 7 then μ 114 31 else if x = 8 then μ 114 32 else if x = 9 then μ 110 33 else if x = 10 then μ 110 37 else if x = 11 then μ 110 26 else -1000000002) ∧ μ = ν)) := by
  refine zMi_of RX9 rfl (by decide) rfl (ls := [some (zR 110), some (zI x)]) rfl (fun hok => ?_)
  refine zA_iload_n dX9_told_0 rfl ?_
  have hsw : x = 0 ∨ x = 1 ∨ x = 2 ∨ x = 3 ∨ x = 4 ∨ x = 5 ∨ x = 6 ∨ x = 7 ∨ x = 8 ∨ x = 9 ∨ x = 10 ∨ x = 11 ∨ (x < 0 ∨ 11 < x) := by omega
  rcases hsw with hsw | hsw | hsw | hsw | hsw | hsw | hsw | hsw | hsw | hsw | hsw | hsw | hsw
  · refine zA_tinE (tgt := 64) hsw dX9_told_1 (by decide) (by decide) rfl rfl ?_
    refine zA_aload_n dX9_told_64 rfl ?_
    refine zA_getI fX9_75 t_110 dX9_told_65 ?_
    exact zA_ri dX9_told_68 ⟨by first | (rw [hsw]; rfl) | (repeat rw [if_neg (by omega)]), rfl⟩
  · refine zA_tinE (tgt := 69) hsw dX9_told_1 (by decide) (by decide) rfl rfl ?_
    refine zA_aload_n dX9_told_69 rfl ?_
    refine zA_getI fX9_163 t_110 dX9_told_70 ?_
    exact zA_ri dX9_told_73 ⟨by first | (rw [hsw]; rfl) | (repeat rw [if_neg (by omega)]), rfl⟩
  · refine zA_tinE (tgt := 74) hsw dX9_told_1 (by decide) (by decide) rfl rfl ?_
    refine zA_aload_n dX9_told_74 rfl ?_
    refine zA_getI fX9_78 t_110 dX9_told_75 ?_
    exact zA_ri dX9_told_78 ⟨by first | (rw [hsw]; rfl) | (repeat rw [if_neg (by omega)]), rfl⟩
  · refine zA_tinE (tgt := 79) hsw dX9_told_1 (by decide) (by decide) rfl rfl ?_
    refine zA_aload_n dX9_told_79 rfl ?_
    refine zA_getI fX9_169 t_110 dX9_told_80 ?_
    exact zA_ri dX9_told_83 ⟨by first | (rw [hsw]; rfl) | (repeat rw [if_neg (by omega)]), rfl⟩
  · refine zA_tinE (tgt := 84) hsw dX9_told_1 (by decide) (by decide) rfl rfl ?_
    refine zA_aload_n dX9_told_84 rfl ?_
    refine zA_getI fX9_90 t_110 dX9_told_85 ?_
    exact zA_ri dX9_told_88 ⟨by first | (rw [hsw]; rfl) | (repeat rw [if_neg (by omega)]), rfl⟩
  · refine zA_tinE (tgt := 89) hsw dX9_told_1 (by decide) (by decide) rfl rfl ?_
    refine zA_aload_n dX9_told_89 rfl ?_
    refine zA_getR fX9_19 t_110 rfl dX9_told_90 ?_
    refine zA_bipush dX9_told_93 rfl ?_
    refine zA_ialE (w := μ 114 30) (j := 30) t_114 (by omega) (by omega) dX9_told_95 rfl rfl ?_
    exact zA_ri dX9_told_96 ⟨by first | (rw [hsw]; rfl) | (repeat rw [if_neg (by omega)]), rfl⟩
  · refine zA_tinE (tgt := 97) hsw dX9_told_1 (by decide) (by decide) rfl rfl ?_
    refine zA_aload_n dX9_told_97 rfl ?_
    refine zA_getI fX9_166 t_110 dX9_told_98 ?_
    exact zA_ri dX9_told_101 ⟨by first | (rw [hsw]; rfl) | (repeat rw [if_neg (by omega)]), rfl⟩
  · refine zA_tinE (tgt := 102) hsw dX9_told_1 (by decide) (by decide) rfl rfl ?_
    refine zA_aload_n dX9_told_102 rfl ?_
    refine zA_getR fX9_19 t_110 rfl dX9_told_103 ?_
    refine zA_bipush dX9_told_106 rfl ?_
    refine zA_ialE (w := μ 114 31) (j := 31) t_114 (by omega) (by omega) dX9_told_108 rfl rfl ?_
    exact zA_ri dX9_told_109 ⟨by first | (rw [hsw]; rfl) | (repeat rw [if_neg (by omega)]), rfl⟩
  · refine zA_tinE (tgt := 110) hsw dX9_told_1 (by decide) (by decide) rfl rfl ?_
    refine zA_aload_n dX9_told_110 rfl ?_
    refine zA_getR fX9_19 t_110 rfl dX9_told_111 ?_
    refine zA_bipush dX9_told_114 rfl ?_
    refine zA_ialE (w := μ 114 32) (j := 32) t_114 (by omega) (by omega) dX9_told_116 rfl rfl ?_
    exact zA_ri dX9_told_117 ⟨by first | (rw [hsw]; rfl) | (repeat rw [if_neg (by omega)]), rfl⟩
  · refine zA_tinE (tgt := 118) hsw dX9_told_1 (by decide) (by decide) rfl rfl ?_
    refine zA_aload_n dX9_told_118 rfl ?_
    refine zA_getI fX9_178 t_110 dX9_told_119 ?_
    exact zA_ri dX9_told_122 ⟨by first | (rw [hsw]; rfl) | (repeat rw [if_neg (by omega)]), rfl⟩
  · refine zA_tinE (tgt := 123) hsw dX9_told_1 (by decide) (by decide) rfl rfl ?_
    refine zA_aload_n dX9_told_123 rfl ?_
    refine zA_getI fX9_181 t_110 dX9_told_124 ?_
    exact zA_ri dX9_told_127 ⟨by first | (rw [hsw]; rfl) | (repeat rw [if_neg (by omega)]), rfl⟩
  · refine zA_tinE (tgt := 128) hsw dX9_told_1 (by decide) (by decide) rfl rfl ?_
    refine zA_aload_n dX9_told_128 rfl ?_
    refine zA_getI fX9_184 t_110 dX9_told_129 ?_
    exact zA_ri dX9_told_132 ⟨by first | (rw [hsw]; rfl) | (repeat rw [if_neg (by omega)]), rfl⟩
  · refine zA_tout (tgt := 133) dX9_told_1 hsw rfl ?_
    refine zA_ldc cX9_89 dX9_told_133 rfl ?_
    exact zA_ri dX9_told_135 ⟨by first | (rw [hsw]; rfl) | (repeat rw [if_neg (by omega)]), rfl⟩
theorem pr_told (μ : zM) (x : Int) (n m t : Nat) (u : Int) (hI : zInv μ n m t u) : zPair yX8_told cX8_told 2 yX9_told cX9_told 2 [zI x] μ := by
  refine zPair_q hI (if x = 0 then μ 110 0 else if x = 1 then μ 110 1 else if x = 2 then μ 110 2 else if x = 3 then μ 110 5 else if x = 4 then μ 110 11 else if x = 5 then μ 114 30 else if x = 6 then μ 110 4 else if x = 7 then μ 114 31 else if x = 8 then μ 114 32 else if x = 9 then μ 110 33 else if x = 10 then μ 110 37 else if x = 11 then μ 110 26 else -1000000002) (zMi_mono (c_X8_told 19 x μ) ?_) (fun ν hq hν => zMi_mono (c_X9_told 19 x ν) ?_)
  · rintro v ν ⟨rfl, rfl⟩
    obtain ⟨⟨⟨a1, a2, a3, a4, -⟩, ⟨b1, b2, b3, b4, -⟩, hd, -⟩, ⟨-, -, s1, s2, s3⟩, ⟨L, -, l1, l2, -⟩, -, ⟨s, -, n1, n2, -⟩, ⟨s', -, n3, n4, -⟩, -, ⟨z, x, -, -, z1, z2, -⟩⟩ := hI
    exact ⟨by rw [a1, a2, a3, a4, b1, b2, b3, b4, hd, s1, s2, s3, l1, l2, n1, n2, n3, n4, z1, z2], qC.refl _⟩
  · rintro v ξ ⟨rfl, rfl⟩
    exact ⟨by rw [hq 110 (by unfold cScr; omega), hq 114 (by unfold cScr; omega)], qM.refl _⟩
