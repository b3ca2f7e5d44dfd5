/-! ===== new int[n][m] ===== -/
section ZMulti
variable {own : String} {cc : ByteArray} {nL : Nat} {R : Room} {X : zX} {T : zT} {cs : Nat} {μ : zM} {pc : Nat} {ls : List (Option zV)} {st : List zV} {P : zP}
theorem zA_multi {index : Nat} {n k : Int} (hT : T.length < 131) (hl : Cond.classLink own index "[[I" ∈ zws) (ho : zNs (Cond.arrayOver (.array .int))) (hw : Cond.arrayClass .int ∈ zws) (h0 : 0 ≤ n) (hn2 : n ≤ 900) (h1 : 0 ≤ k) (hk2 : k ≤ 900) (hR1 : cs + (1 + n.toNat) ≤ R.cells) (hR2 : 1000 * cs + 1000 * (1 + n.toNat) ≤ R.slots) (hd : decode cc pc = .ok (.multianewarray index 2, 4))
    (kk : zA own cc nL R X (T ++ ((13, n.toNat, (List.range n.toNat).map (fun i => some (T.length + 1 + i))) :: List.replicate n.toNat (10, k.toNat, []))) (cs + (1 + n.toNat)) μ (pc + 4) ls (zR T.length :: st) P) : zA own cc nL R X T cs μ pc ls (zI k :: zI n :: st) P := by
  intro G p l e s m args below meth c H locs la Q hC hH hL hst hlo hQ
  have hzk : zr k := zhead hst
  have hzn : zr n := zhead (ztail hst)
  have hsz : H.size = G.1 + T.length := hH.1.2.1 hT
  intro T0 hT0 Xs
  have hb1 : n.toNat * k.toNat ≤ n.toNat * 900 := Nat.mul_le_mul_left _ (by omega)
  obtain ⟨vm₁, cA, comp, fA, fC, X', step⟩ := zm_step Xs hC.1 hC.2.2.2.1 (hC.2.2.2.2.1 _ hl) (show (Cond.arrayOver (.array .int)).before args s = true from hC.2.2.2.2.2.1.2 _ ho) (hC.2.2.2.2.1 _ hw) (g := F0 m pc la ((zI k :: zI n :: st).map (zc G))) rfl (by rw [hC.2.1]; exact hd) (n := Int32.ofInt n) (k := Int32.ofInt k) (rest := st.map (zc G)) rfl (by rw [zo_0, zo_lt hzn zr_0]; omega) (by rw [zo_0, zo_lt hzk zr_0]; omega) (by rw [zo_clamp hzn]; omega) (by rw [zo_clamp hzk]; omega) (by rw [zo_clamp hzn]; exact hR1) (by rw [zo_clamp hzn, zo_clamp hzk]; omega)
  rw [zo_clamp hzn, zo_clamp hzk] at X' step
  have hcA : cA = G.2.2.2.2.2.2 := Option.some.inj (fA.symm.trans (hC.2.2.2.2.2.1.1.2 3 _ rfl).2)
  have hcI : comp = G.2.2.2.1 := Option.some.inj (fC.symm.trans (hC.2.2.2.2.2.1.1.2 0 _ rfl).2)
  subst hcA
  subst hcI
  have f1 := zm_size (T0.setVm vm₁) G.2.2.2.2.2.2 G.2.2.2.1 n.toNat k.toNat n.toNat
  have f2 := zm_at0 (T0.setVm vm₁) G.2.2.2.2.2.2 G.2.2.2.1 n.toNat k.toNat n.toNat
  have hold := fun (x : Nat) (hx : x < (T0.setVm vm₁).heap.size) => zm_old (T0.setVm vm₁) G.2.2.2.2.2.2 G.2.2.2.1 n.toNat k.toNat hx n.toNat
  have hrow := fun (j : Nat) (hj : j < n.toNat) => zm_at (T0.setVm vm₁) G.2.2.2.2.2.2 G.2.2.2.1 n.toNat k.toNat n.toNat hj
  generalize hF : zm_run (T0.setVm vm₁) G.2.2.2.2.2.2 G.2.2.2.1 n.toNat k.toNat n.toNat = F at X' step f1 f2 hold hrow
  have hTh : (T0.setVm vm₁).heap = H := hT0
  rw [hTh] at f1 f2 hold hrow
  unfold zm_out at f2
  unfold zm_row at hrow
  have hnew : zHp G (T ++ ((13, n.toNat, (List.range n.toNat).map (fun i => some (T.length + 1 + i))) :: List.replicate n.toNat (10, k.toNat, []))) μ s.heap F.heap locs := by
    refine zHp_app hH hT (fun i e' he => ?_) (by rw [f1]; simp; omega) hold
    cases i with
    | zero =>
      cases he
      show F.heap[G.1 + (T.length + 0)]? = some (vp_cell _ _)
      rw [Nat.add_zero, ← hsz, f2, vp_cell_q]
      congr 2
      funext j
      by_cases hj : j < n.toNat
      · rw [if_pos hj, znth_get]
        simp [hj, zrf, hsz, Nat.add_assoc, va_rf]
      · rw [if_neg hj, znth_get]
        simp [hj, zrf, va_rf]
    | succ i =>
      rw [List.getElem?_cons_succ, List.getElem?_replicate] at he
      by_cases hi : i < n.toNat
      · rw [if_pos hi] at he
        cases he
        show F.heap[G.1 + (T.length + (i + 1))]? = some (vp_cell _ _)
        have hq := hrow i hi
        rw [show G.1 + (T.length + (i + 1)) = H.size + 1 + i by omega, hq, vp_cell_i]
        congr 2
        funext j
        rw [hH.1.2.2.2 _ _ (by omega)]
        rfl
      · rw [if_neg hi] at he
        cases he
  have hX2 : Stand p l e R s m args below meth c F locs (cs + (1 + n.toNat)) (1000 * (cs + (1 + n.toNat))) := stand_widen X' (by omega) (by omega)
  obtain ⟨t, a1, b1⟩ := kk G p l e s m args below meth c F.heap locs la Q hC hnew hL (zcons (v := zR T.length) trivial (ztail (ztail hst))) hlo hQ F rfl hX2
  refine ⟨t, step t ?_, b1⟩
  have he : ({ F0 m pc la ((zI k :: zI n :: st).map (zc G)) with pc := pc + 4, stack := .ref T0.heap.size :: st.map (zc G) } : JFrame) = F0 m (pc + 4) la ((zR T.length :: st).map (zc G)) := by
    rw [hT0, hsz]; rfl
  show Steps _ _ _ (F.setTop _) _
  rw [he]
  exact a1
end ZMulti
