/-! ===== rules of zA: fields and arrays ===== -/
def zFI (own : String) (index ci j : Nat) : Prop := ∃ q : vw_C, zCl[ci]? = some q ∧ j < q.2.2 ∧ znth (zfl ci) j = some false ∧ Cond.fieldLink own index (q.2.1 j).1 (q.2.1 j).2.1 (q.2.1 j).2.2.1 ∈ zws
def zFR (own : String) (index ci j : Nat) : Prop := ∃ q : vw_C, zCl[ci]? = some q ∧ j < q.2.2 ∧ znth (zfl ci) j = some true ∧ Cond.fieldLink own index (q.2.1 j).1 (q.2.1 j).2.1 (q.2.1 j).2.2.1 ∈ zws
def zFW (own : String) (index ci j : Nat) : Prop := ∃ q : vw_C, zCl[ci]? = some q ∧ j < q.2.2 ∧ znth (zfl ci) j = some false ∧ Cond.fieldLink own index (q.2.1 j).1 (q.2.1 j).2.1 (q.2.1 j).2.2.1 ∈ zws ∧ parseFieldDescriptor (q.2.1 j).2.2.1 = some .int ∧ (q.2.1 j).2.2.2 = false
theorem zlt {T : zT} {k : Nat} {e : zK} (h : znth T k = some e) : k < T.length := by
  rw [znth_get] at h
  exact (List.getElem?_eq_some_iff.mp h).1
theorem zfs_set {G : zG} {e : zK} {μ : zM} {k j : Nat} {v : Int} (hfl : znth (zfl e.1) j = some false) : zfs G e (zup μ k j v) k = (zfs G e μ k).set j (.int (Int32.ofInt v)) := by
  have hj : j < (zfl e.1).length := by rw [znth_get] at hfl; exact (List.getElem?_eq_some_iff.mp hfl).1
  apply List.ext_getElem?
  intro i
  rw [List.getElem?_set, zfs_len]
  by_cases hi : i < (zfl e.1).length
  · rw [zfs_at hi, zfs_at hi]
    by_cases hij : j = i
    · subst hij
      simp [hj, zfv, hfl, zup_s]
    · rw [if_neg hij]
      simp only [zfv]
      rw [zup_n (fun q => hij q.2.symm)]
  · rw [List.getElem?_eq_none (by rw [zfs_len]; omega)]
    rw [if_neg (by omega), List.getElem?_eq_none (by rw [zfs_len]; omega)]
/-- one cell is written -/
theorem zHp_put {G : zG} {T : zT} {μ μ' : zM} {H0 H H1 : Heap} {locs : List Loc} {k i : Nat} {e : zK} {x : va_E} (hH : zHp G T μ H0 H locs) (hk : znth T k = some e) (hx : zE G e μ' k = x) (ho : ∀ j i, j ≠ k → μ' j i = μ j i) (hr : ∀ k i, zr (μ' k i)) (hat : va_at G.2.2.1 zCl (G.1 + k, x) H1) (z : H1.size = H.size) (oq : ∀ q : Nat, q ≠ G.1 + k → H1[q]? = H[q]?) : zHp G T μ' H0 H1 (locs ++ [⟨G.1 + k, i⟩]) := by
  obtain ⟨⟨hP, hsz, -, hz⟩, hS, hb⟩ := hH
  have hP' := hP.set zW_D (zW_at hk) hat oq
  rw [zW_set hk hx ho] at hP'
  refine ⟨⟨hP', fun h => by rw [z]; exact hsz h, hr, fun k' i' h' => ?_⟩, hS.put z oq (Nat.le_add_right _ _), hb⟩
  have := zlt hk
  rw [ho k' i' (by omega)]
  exact hz k' i' h'
section ZMem
variable {own : String} {cc : ByteArray} {nL : Nat} {R : Room} {X : zX} {T : zT} {cs : Nat} {μ : zM} {pc : Nat} {ls : List (Option zV)} {st : List zV} {P : zP}
theorem zA_getI {index ci j k n : Nat} {rs : List (Option Nat)} (hf : zFI own index ci j) (hk : znth T k = some (ci, n, rs)) (hd : decode cc pc = .ok (.getfield index, 3)) (kk : zA own cc nL R X T cs μ (pc + 3) ls (zI (μ k j) :: st) P) : zA own cc nL R X T cs μ pc ls (zR k :: st) P := by
  intro G p l e s m args below meth c H locs la Q hC hH hL hst hlo hQ
  obtain ⟨q, hc, hj, hfl, hw⟩ := hf
  obtain ⟨hlen, hci⟩ := zcl_len ci q hc
  have hat := zW_at (G := G) (μ := μ) hk
  rw [zE_o (e := (ci, n, rs)) hci] at hat
  refine va_get (D := G.2.2.1) (C := q.1) (T := q.2.1) (N := q.2.2) (v := .int (Int32.ofInt (μ k j))) hC.1 hC.2.1 hC.2.2.2.2.1 (zcl_in ci q hc) hC.2.2.2.1 hC.2.2.2.2.2.1.1 hH.1.1 k hat hc j hj (hC.2.2.2.2.1 _ hw) (fun _ h => h) ?_ hd (kk G p l e s m args below meth c H locs la Q hC hH hL (zcons (v := zI (μ k j)) (hH.1.2.2.1 k j) (ztail hst)) hlo hQ)
  rw [zfs_at (by show j < (zfl ci).length; omega)]
  simp [zfv, hfl]
theorem zA_getR {index ci j k k' n : Nat} {rs : List (Option Nat)} (hf : zFR own index ci j) (hk : znth T k = some (ci, n, rs)) (hr : znth rs j = some (some k')) (hd : decode cc pc = .ok (.getfield index, 3)) (kk : zA own cc nL R X T cs μ (pc + 3) ls (zR k' :: st) P) : zA own cc nL R X T cs μ pc ls (zR k :: st) P := by
  intro G p l e s m args below meth c H locs la Q hC hH hL hst hlo hQ
  obtain ⟨q, hc, hj, hfl, hw⟩ := hf
  obtain ⟨hlen, hci⟩ := zcl_len ci q hc
  have hat := zW_at (G := G) (μ := μ) hk
  rw [zE_o (e := (ci, n, rs)) hci] at hat
  refine va_get (D := G.2.2.1) (C := q.1) (T := q.2.1) (N := q.2.2) (v := .ref (G.1 + k')) hC.1 hC.2.1 hC.2.2.2.2.1 (zcl_in ci q hc) hC.2.2.2.1 hC.2.2.2.2.2.1.1 hH.1.1 k hat hc j hj (hC.2.2.2.2.1 _ hw) (fun _ h => h) ?_ hd (kk G p l e s m args below meth c H locs la Q hC hH hL (zcons (v := zR k') trivial (ztail hst)) hlo hQ)
  rw [zfs_at (by show j < (zfl ci).length; omega)]
  simp [zfv, hfl, hr, zrf, va_rf]
theorem zA_putI {index ci j k n : Nat} {v : Int} {rs : List (Option Nat)} (hf : zFW own index ci j) (hk : znth T k = some (ci, n, rs)) (hd : decode cc pc = .ok (.putfield index, 3)) (kk : zA own cc nL R X T cs (zup μ k j v) (pc + 3) ls st P) : zA own cc nL R X T cs μ pc ls (zI v :: zR k :: st) P := by
  intro G p l e s m args below meth c H locs la Q hC hH hL hst hlo hQ
  obtain ⟨q, hc, hj, hfl, hw, hty, hfin⟩ := hf
  obtain ⟨hlen, hci⟩ := zcl_len ci q hc
  obtain ⟨ty0, hty0⟩ := zcl_ty ci q hc
  have hat := zW_at (G := G) (μ := μ) hk
  rw [zE_o (e := (ci, n, rs)) hci] at hat
  have hts := hC.2.2.2.2.1
  have hin := zcl_in ci q hc
  have hK := hC.2.2.2.2.2.1.1
  have hap := va_apart (own := own) hts hin ty0 hty0 (zcl_nm ci q hc) hK hc
  obtain ⟨r, h1, cell, q1, q2, q3, q4⟩ := hH.1.1 k _ hat
  have hr : r = q := Option.some.inj (h1.symm.trans hc)
  subst hr
  obtain ⟨hS, hfc, kC, hkC, hkind⟩ := hK.1 ci _ hc
  obtain ⟨cf, kf, fi, f, hi, hsl⟩ := hS j hj
  have hlay := hts _ (hin _ (u_in_lay hj))
  unfold u_lay at hlay
  rw [if_neg (by rw [hfin]; decide)] at hlay
  have hst0 := (u_facts hfc hkC (u_lays hts hin hj) hi).1
  have h6 := u_store hfc hkC hkind hlay hi (ty := .int) (v := .int (Int32.ofInt v)) hty rfl rfl
  refine W.putK hC.1 hC.2.1 (f := f) ⟨hC.2.2.2.1, hts _ hw, ⟨_, _, _, hi⟩, hst0⟩ (by rw [q2]; exact h6) q1 q3 (by rw [hsl]; exact k2_hasslot (q4 j hj)) rfl rfl hd fun H' e1 e2 e3 => ?_
  rw [hsl] at e1 ⊢
  refine kk G p l e s m args below meth c H' _ la Q hC (zHp_put hH hk (μ' := zup μ k j v) (zE_o (e := (ci, n, rs)) hci) (fun a b h => zup_k h) (zup_r hH.1.2.2.1 (zhead hst)) ?_ e2 e3) hL (ztail (ztail hst)) hlo hQ
  refine ⟨_, hc, ?_⟩
  show t_OB (G.1 + k) _ _ _ H' (vp_V (zfs G (ci, n, rs) (zup μ k j v) k))
  rw [zfs_set (e := (ci, n, rs)) hfl]
  exact t_OB.to (V := updV (vp_V (zfs G (ci, n, rs) μ k)) j (.int (Int32.ofInt v))) ⟨_, e1, q2, q3, t_set q4 hap hj _⟩ (fun i _ => vp_updV_set (by rw [zfs_len]; show j < (zfl ci).length; omega) _ i)
/-- int[] -/
theorem zA_iald {k n : Nat} {i : Int} {rs : List (Option Nat)} (hk : znth T k = some (10, n, rs)) (h0 : 0 ≤ i) (h1 : i < n) (hd : decode cc pc = .ok (.iaload, 1)) (kk : zA own cc nL R X T cs μ (pc + 1) ls (zI (μ k i.toNat) :: st) P) : zA own cc nL R X T cs μ pc ls (zI i :: zR k :: st) P := by
  intro G p l e s m args below meth c H locs la Q hC hH hL hst hlo hQ
  have hz : zr i := zhead hst
  have h := kk G p l e s m args below meth c H locs la Q hC hH hL (zcons (v := zI (μ k i.toNat)) (hH.1.2.2.1 _ _) (ztail (ztail hst))) hlo hQ
  refine va_iald (D := G.2.2.1) hC.1 hC.2.1 hC.2.2.2.2.2.1.1 hH.1.1 k 0 (zW_at (G := G) (μ := μ) hk) rfl (zo_in hz h0 h1) hd ?_
  rw [zo_clamp hz]
  exact h
theorem zA_zald {k n : Nat} {i : Int} {rs : List (Option Nat)} (hk : znth T k = some (11, n, rs)) (h0 : 0 ≤ i) (h1 : i < n) (hd : decode cc pc = .ok (.baload, 1)) (kk : zA own cc nL R X T cs μ (pc + 1) ls (zI (μ k i.toNat) :: st) P) : zA own cc nL R X T cs μ pc ls (zI i :: zR k :: st) P := by
  intro G p l e s m args below meth c H locs la Q hC hH hL hst hlo hQ
  have hz : zr i := zhead hst
  have h := kk G p l e s m args below meth c H locs la Q hC hH hL (zcons (v := zI (μ k i.toNat)) (hH.1.2.2.1 _ _) (ztail (ztail hst))) hlo hQ
  refine va_zald (D := G.2.2.1) hC.1 hC.2.1 hC.2.2.2.2.2.1.1 hH.1.1 k 1 (zW_at (G := G) (μ := μ) hk) rfl (zo_in hz h0 h1) hd ?_
  rw [zo_clamp hz]
  exact h
theorem zupd_arr (cA : ClassId) (n : Nat) (μ : zM) (k j : Nat) (v : Int) : (vp_cell cA (n, .inl (fun i => Int32.ofInt (μ k i)))).setSlot j (.int (Int32.ofInt v)) = vp_cell cA (n, .inl (fun i => Int32.ofInt (zup μ k j v k i))) := by
  rw [vp_cell_i, vp_cell_i, arrV_store]
  congr 1
  funext q
  by_cases hq : q = j
  · subst hq; simp [updV, zup_s]
  · simp only [updV]
    rw [if_neg hq, zup_n (fun h => hq h.2)]
theorem zA_iast {k n : Nat} {i v : Int} {rs : List (Option Nat)} (hk : znth T k = some (10, n, rs)) (h0 : 0 ≤ i) (h1 : i < n) (hd : decode cc pc = .ok (.iastore, 1)) (kk : zA own cc nL R X T cs (zup μ k i.toNat v) (pc + 1) ls st P) : zA own cc nL R X T cs μ pc ls (zI v :: zI i :: zR k :: st) P := by
  intro G p l e s m args below meth c H locs la Q hC hH hL hst hlo hQ
  have hz : zr i := zhead (ztail hst)
  have hK := hC.2.2.2.2.2.1.1
  have hat := zW_at (G := G) (μ := μ) hk
  refine W.iast hC.1 hC.2.1 (hH.1.1 k _ hat) ((hK.2 0 _ rfl).1 n (fun j => .int (Int32.ofInt (μ k j)))) (fun q => by cases q) (by show ¬ (_ ∨ (arrV _ _ _).slots.size ≤ _); rw [arrV_size]; exact zo_in hz h0 h1) rfl rfl hd fun H1 e1 z oq => ?_
  rw [zo_clamp hz] at e1 ⊢
  refine kk G p l e s m args below meth c H1 _ la Q hC (zHp_put hH hk (μ' := zup μ k i.toNat v) rfl (fun a b h => zup_k h) (zup_r hH.1.2.2.1 (zhead hst)) ?_ z oq) hL (ztail (ztail (ztail hst))) hlo hQ
  show H1[G.1 + k]? = some (vp_cell _ _)
  rw [e1]
  exact congrArg some (zupd_arr _ n μ k i.toNat v)
theorem zA_zast {k n : Nat} {i v : Int} {rs : List (Option Nat)} (hk : znth T k = some (11, n, rs)) (h0 : 0 ≤ i) (h1 : i < n) (hv : v = 0 ∨ v = 1) (hd : decode cc pc = .ok (.bastore, 1)) (kk : zA own cc nL R X T cs (zup μ k i.toNat v) (pc + 1) ls st P) : zA own cc nL R X T cs μ pc ls (zI v :: zI i :: zR k :: st) P := by
  intro G p l e s m args below meth c H locs la Q hC hH hL hst hlo hQ
  have hz : zr i := zhead (ztail hst)
  have hK := hC.2.2.2.2.2.1.1
  have hat := zW_at (G := G) (μ := μ) hk
  refine W.zast hC.1 hC.2.1 (hH.1.1 k _ hat) ((hK.2 1 _ rfl).1 n (fun j => .int (Int32.ofInt (μ k j)))) (fun q => by cases q) (by show ¬ (_ ∨ (arrV _ _ _).slots.size ≤ _); rw [arrV_size]; exact zo_in hz h0 h1) rfl rfl hd fun H1 e1 z oq => ?_
  rw [zo_clamp hz] at e1 ⊢
  rw [znar_b hv] at e1
  refine kk G p l e s m args below meth c H1 _ la Q hC (zHp_put hH hk (μ' := zup μ k i.toNat v) rfl (fun a b h => zup_k h) (zup_r hH.1.2.2.1 (zhead hst)) ?_ z oq) hL (ztail (ztail (ztail hst))) hlo hQ
  show H1[G.1 + k]? = some (vp_cell _ _)
  rw [e1]
  exact congrArg some (zupd_arr _ n μ k i.toNat v)
/-- State[], int[][] -/
theorem zA_aaldS {k k' n : Nat} {i : Int} {rs : List (Option Nat)} (hk : znth T k = some (12, n, rs)) (h0 : 0 ≤ i) (h1 : i < n) (hr : znth rs i.toNat = some (some k')) (hd : decode cc pc = .ok (.aaload, 1)) (kk : zA own cc nL R X T cs μ (pc + 1) ls (zR k' :: st) P) : zA own cc nL R X T cs μ pc ls (zI i :: zR k :: st) P := by
  intro G p l e s m args below meth c H locs la Q hC hH hL hst hlo hQ
  have hz : zr i := zhead hst
  have h := kk G p l e s m args below meth c H locs la Q hC hH hL (zcons (v := zR k') trivial (ztail (ztail hst))) hlo hQ
  have hlt : i.toNat < n := by omega
  refine W.aald (v := .ref (G.1 + k')) (ty := .object RX7) hC.1 hC.2.1 (hH.1.1 k _ (zW_at (G := G) (μ := μ) hk)) ((hC.2.2.2.2.2.1.1.2 2 _ rfl).1 n (fun j => va_rf (zrf G ((znth rs j).getD none)))) rfl (fun q => by cases q) (by show ¬ (_ ∨ (arrV _ _ _).slots.size ≤ _); rw [arrV_size]; exact zo_in hz h0 h1) ?_ rfl rfl hd h
  show (arrV _ _ _).slots[_]? = _
  rw [zo_clamp hz, arrV_read _ _ hlt]
  simp [hr, zrf, va_rf]
theorem zA_aaldG {k k' n : Nat} {i : Int} {rs : List (Option Nat)} (hk : znth T k = some (13, n, rs)) (h0 : 0 ≤ i) (h1 : i < n) (hr : znth rs i.toNat = some (some k')) (hd : decode cc pc = .ok (.aaload, 1)) (kk : zA own cc nL R X T cs μ (pc + 1) ls (zR k' :: st) P) : zA own cc nL R X T cs μ pc ls (zI i :: zR k :: st) P := by
  intro G p l e s m args below meth c H locs la Q hC hH hL hst hlo hQ
  have hz : zr i := zhead hst
  have h := kk G p l e s m args below meth c H locs la Q hC hH hL (zcons (v := zR k') trivial (ztail (ztail hst))) hlo hQ
  have hlt : i.toNat < n := by omega
  refine W.aald (v := .ref (G.1 + k')) (ty := .array .int) hC.1 hC.2.1 (hH.1.1 k _ (zW_at (G := G) (μ := μ) hk)) ((hC.2.2.2.2.2.1.1.2 3 _ rfl).1 n (fun j => va_rf (zrf G ((znth rs j).getD none)))) rfl (fun q => by cases q) (by show ¬ (_ ∨ (arrV _ _ _).slots.size ≤ _); rw [arrV_size]; exact zo_in hz h0 h1) ?_ rfl rfl hd h
  show (arrV _ _ _).slots[_]? = _
  rw [zo_clamp hz, arrV_read _ _ hlt]
  simp [hr, zrf, va_rf]
/-- the script -/
theorem zA_sld {L : Nat} {xs : Nat → Int} {i : Int} (hX : X.2 = some (L, xs)) (h0 : 0 ≤ i) (h1 : i < L) (hd : decode cc pc = .ok (.iaload, 1)) (kk : zA own cc nL R X T cs μ (pc + 1) ls (zI (xs i.toNat) :: st) P) : zA own cc nL R X T cs μ pc ls (zI i :: zS :: st) P := by
  intro G p l e s m args below meth c H locs la Q hC hH hL hst hlo hQ
  have hz : zr i := zhead hst
  obtain ⟨x1, x2, x3, x4⟩ := hC.2.2.2.2.2.2.2 L xs hX
  have h := kk G p l e s m args below meth c H locs la Q hC hH hL (zcons (v := zI (xs i.toNat)) (x3 _) (ztail (ztail hst))) hlo hQ
  refine va_sld (A := fun q => G.1 ≤ q) hC.1 hC.2.1 x1 (Nat.lt_of_lt_of_le x2 hH.2.2) (by omega) hH.2.1 (zo_in hz h0 h1) hd ?_
  rw [zo_clamp hz]
  exact h
theorem zA_slen {L : Nat} {xs : Nat → Int} (hX : X.2 = some (L, xs)) (hd : decode cc pc = .ok (.arraylength, 1)) (kk : zA own cc nL R X T cs μ (pc + 1) ls (zI L :: st) P) : zA own cc nL R X T cs μ pc ls (zS :: st) P := by
  intro G p l e s m args below meth c H locs la Q hC hH hL hst hlo hQ
  obtain ⟨x1, x2, x3, x4⟩ := hC.2.2.2.2.2.2.2 L xs hX
  have h := kk G p l e s m args below meth c H locs la Q hC hH hL (zcons (v := zI L) ⟨by omega, by omega⟩ (ztail hst)) hlo hQ
  refine va_slen (A := fun q => G.1 ≤ q) hC.1 hC.2.1 x1 (Nat.lt_of_lt_of_le x2 hH.2.2) (by omega) hH.2.1 hd ?_
  exact h
end ZMem
