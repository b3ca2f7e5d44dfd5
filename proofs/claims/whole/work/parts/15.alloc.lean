/-! ===== rules of zA: what constructors do ===== -/
theorem zW_app (G : zG) (T es : zT) (μ : zM) : zW G (T ++ es) μ = zW G T μ ++ es.mapIdx (fun i e => (G.1 + (T.length + i), zE G e μ (T.length + i))) := by
  unfold zW
  rw [List.mapIdx_append]
  congr 1
  apply List.ext_getElem?
  intro i
  simp only [List.getElem?_mapIdx]
  cases es[i]? with
  | none => rfl
  | some e => simp [Nat.add_comm]
/-- cells are made -/
theorem zHp_app {G : zG} {T es : zT} {μ : zM} {H0 H H1 : Heap} {locs : List Loc} (hH : zHp G T μ H0 H locs) (hT : T.length < 131) (hat : ∀ (i : Nat) (e : zK), es[i]? = some e → va_at G.2.2.1 zCl (G.1 + (T.length + i), zE G e μ (T.length + i)) H1) (z : H1.size = H.size + es.length) (oq : ∀ q : Nat, q < H.size → H1[q]? = H[q]?) : zHp G (T ++ es) μ H0 H1 locs := by
  obtain ⟨⟨hP, hsz, hr, hz⟩, hS, hb⟩ := hH
  have hP0 : va_P G.2.2.1 zCl (zW G T μ) H1 := hP.kept (fun k x hx => oq x.1 ((hP k x hx).lt))
  have hP1 : va_P G.2.2.1 zCl (zW G (T ++ es) μ) H1 := by
    rw [zW_app]
    refine hP0.app (fun k x hx => ?_)
    simp only [List.getElem?_mapIdx, Option.map_eq_some_iff] at hx
    obtain ⟨e, he, rfl⟩ := hx
    exact hat k e he
  refine ⟨⟨hP1, fun _ => ?_, hr, fun k i hk => hz k i ?_⟩, ⟨Nat.le_trans hS.1 (by omega), fun x h1 h2 => (oq x (Nat.lt_of_lt_of_le h1 hS.1)).trans (hS.2.1 x h1 h2), hS.2.2⟩, hb⟩
  · rw [z, hsz hT, List.length_append]
    omega
  · rw [List.length_append] at hk
    omega
theorem zHp_new {G : zG} {T : zT} {e : zK} {μ : zM} {H0 H H1 : Heap} {locs : List Loc} (hH : zHp G T μ H0 H locs) (hT : T.length < 131) (hat : va_at G.2.2.1 zCl (G.1 + T.length, zE G e μ T.length) H1) (z : H1.size = H.size + 1) (oq : ∀ q : Nat, q < H.size → H1[q]? = H[q]?) : zHp G (T ++ [e]) μ H0 H1 locs := by
  refine zHp_app hH hT (fun i e' he => ?_) z oq
  have h0 : i < 1 := (List.getElem?_eq_some_iff.mp he).1
  have h1 : i = 0 := by omega
  subst h1
  cases he
  exact hat
/-- references written -/
theorem zW_setT {G : zG} {T : zT} {μ : zM} {k : Nat} {e' : zK} : (zW G T μ).set k (G.1 + k, zE G e' μ k) = zW G (T.set k e') μ := by
  apply List.ext_getElem?
  intro j
  rw [List.getElem?_set, zW_len]
  simp only [zW, List.getElem?_mapIdx, List.getElem?_set]
  by_cases hj : k = j
  · subst hj
    by_cases hk : k < T.length
    · simp [hk]
    · simp [hk]
  · simp [hj]
theorem zHp_ref {G : zG} {T : zT} {μ : zM} {H0 H H1 : Heap} {locs : List Loc} {k i : Nat} {e e' : zK} (hH : zHp G T μ H0 H locs) (hk : znth T k = some e) (hat : va_at G.2.2.1 zCl (G.1 + k, zE G e' μ k) H1) (z : H1.size = H.size) (oq : ∀ q : Nat, q ≠ G.1 + k → H1[q]? = H[q]?) : zHp G (T.set k e') μ H0 H1 (locs ++ [⟨G.1 + k, i⟩]) := by
  obtain ⟨⟨hP, hsz, hr, hz⟩, hS, hb⟩ := hH
  have hP' := hP.set zW_D (zW_at hk) hat oq
  rw [zW_setT] at hP'
  exact ⟨⟨hP', fun h => by rw [z, List.length_set]; exact hsz (by rw [List.length_set] at h; exact h), hr, fun k' i' h' => hz k' i' (by rw [List.length_set] at h'; exact h')⟩, hS.put z oq (Nat.le_add_right _ _), hb⟩
def zFF (own : String) (index ci j : Nat) : Prop := ∃ q : vw_C, zCl[ci]? = some q ∧ j < q.2.2 ∧ znth (zfl ci) j = some true ∧ Cond.fieldLink own index (q.2.1 j).1 (q.2.1 j).2.1 (q.2.1 j).2.2.1 ∈ zws ∧ (∃ ty, parseFieldDescriptor (q.2.1 j).2.2.1 = some ty ∧ ∀ a : Nat, narrow ty (.ref a) = .ref a ∧ fits ty (.ref a) = true) ∧ (q.2.1 j).2.2.2 = true ∧ (q.2.1 j).1 = own
def zFFI (own : String) (index ci j : Nat) : Prop := ∃ q : vw_C, zCl[ci]? = some q ∧ j < q.2.2 ∧ znth (zfl ci) j = some false ∧ Cond.fieldLink own index (q.2.1 j).1 (q.2.1 j).2.1 (q.2.1 j).2.2.1 ∈ zws ∧ parseFieldDescriptor (q.2.1 j).2.2.1 = some .int ∧ (q.2.1 j).2.2.2 = true ∧ (q.2.1 j).1 = own
def zCN (own : String) (index ci : Nat) : Prop := ∃ q : vw_C, zCl[ci]? = some q ∧ Cond.classLink own index q.1 ∈ zws ∧ Cond.instantiable q.1 q.2.2 ∈ zws ∧ Cond.initialized q.1 ∈ zws ∧ ∃ ty0 : Nat → FieldType, (∀ k, k < q.2.2 → parseFieldDescriptor (q.2.1 k).2.2.1 = some (ty0 k)) ∧ ∀ k, k < q.2.2 → defaultValue (ty0 k) = (match znth (zfl ci) k with | some true => Value.null | _ => .int 0)
theorem znth_set {α : Type} (l : List α) (i j : Nat) (x : α) : znth (l.set i x) j = if i = j then (if i < l.length then some x else none) else znth l j := by
  rw [znth_get, znth_get, List.getElem?_set]
theorem zfs_ref {G : zG} {ci n : Nat} {rs : List (Option Nat)} {μ : zM} {k j k' : Nat} (hfl : znth (zfl ci) j = some true) (hl : j < rs.length) : zfs G (ci, n, rs.set j (some k')) μ k = (zfs G (ci, n, rs) μ k).set j (.ref (G.1 + k')) := by
  have hj : j < (zfl ci).length := by rw [znth_get] at hfl; exact (List.getElem?_eq_some_iff.mp hfl).1
  apply List.ext_getElem?
  intro i
  rw [List.getElem?_set, zfs_len]
  by_cases hi : i < (zfl ci).length
  · rw [zfs_at (e := (ci, n, rs.set j (some k'))) hi, zfs_at (e := (ci, n, rs)) hi]
    by_cases hij : j = i
    · subst hij
      simp [hj, zfv, hfl, znth_set, hl, zrf, va_rf]
    · rw [if_neg hij]
      simp only [zfv, znth_set, if_neg hij]
  · rw [List.getElem?_eq_none (by rw [zfs_len (e := (ci, n, rs.set j (some k')))]; exact Nat.not_lt.mp hi)]
    rw [if_neg (by omega), List.getElem?_eq_none (by rw [zfs_len (e := (ci, n, rs))]; exact Nat.not_lt.mp hi)]
section ZAll
variable {own : String} {cc : ByteArray} {nL : Nat} {R : Room} {X : zX} {T : zT} {cs : Nat} {μ : zM} {pc : Nat} {ls : List (Option zV)} {st : List zV} {P : zP}
theorem zA_putR {index ci j k k' n : Nat} {rs : List (Option Nat)} (hX : X.1 = true) (hf : zFF own index ci j) (hk : znth T k = some (ci, n, rs)) (hl : j < rs.length) (hd : decode cc pc = .ok (.putfield index, 3)) (kk : zA own cc nL R X (T.set k (ci, n, rs.set j (some k'))) cs μ (pc + 3) ls st P) : zA own cc nL R X T cs μ pc ls (zR k' :: zR k :: st) P := by
  intro G p l e s m args below meth c H locs la Q hC hH hL hst hlo hQ
  obtain ⟨q, hc, hj, hfl, hw, ⟨ty, hty, htyv⟩, hfin, hdecl⟩ := hf
  obtain ⟨hlen, hci⟩ := zcl_len ci q hc
  obtain ⟨ty0, hty0⟩ := zcl_ty ci q hc
  have hat := zW_at (G := G) (μ := μ) hk
  rw [zE_o (e := (ci, n, rs)) hci] at hat
  have hts := hC.2.2.2.2.1
  have hin := zcl_in ci q hc
  have hK := hC.2.2.2.2.2.1.1
  have hown := hC.2.2.2.1
  have hap := va_apart (own := own) hts hin ty0 hty0 (zcl_nm ci q hc) hK hc
  obtain ⟨r, h1, cell, q1, q2, q3, q4⟩ := hH.1.1 k _ hat
  have hr : r = q := Option.some.inj (h1.symm.trans hc)
  subst hr
  obtain ⟨hS, hfc, kC, hkC, hkind⟩ := hK.1 ci _ hc
  obtain ⟨cf, kf, fi, f, hi, hsl⟩ := hS j hj
  have hlay := hts _ (hin _ (u_in_lay hj))
  unfold u_lay at hlay
  rw [if_pos hfin] at hlay
  have hst0 := (u_facts hfc hkC (u_lays hts hin hj) hi).1
  have hcf : m.cls = cf := by
    obtain ⟨_, _, c', _, _, _, -, -, hf', -, -, -, hown2, -⟩ := Cond.laysFinal_spec hlay
    have e1 : c' = cf := by have := hi.symm.trans hf'; simp at this; exact this.1.symm
    rw [hdecl] at hown2
    rw [← e1]; exact Option.some.inj (hown.symm.trans hown2)
  have h6 := u_fits hfc hkC hkind (Or.inr hlay) hi (v := .ref (G.1 + k')) hty (htyv _).1 (htyv _).2
  refine W.putFinK hC.1 hC.2.1 hown (hts _ hw) hi hst0 hcf (hC.2.2.2.2.2.2.1 hX) (by rw [q2]; exact h6) q1 q3 (by rw [hsl]; exact k2_hasslot (q4 j hj)) rfl rfl hd fun H' e1 e2 e3 => ?_
  rw [hsl] at e1 ⊢
  refine kk G p l e s m args below meth c H' _ la Q hC (zHp_ref (e' := (ci, n, rs.set j (some k'))) hH hk ?_ e2 e3) hL (ztail (ztail hst)) hlo hQ
  rw [zE_o (e := (ci, n, rs.set j (some k'))) hci]
  refine ⟨_, hc, ?_⟩
  show t_OB (G.1 + k) _ _ _ H' (vp_V (zfs G (ci, n, rs.set j (some k')) μ k))
  rw [zfs_ref hfl hl]
  exact t_OB.to (V := updV (vp_V (zfs G (ci, n, rs) μ k)) j (.ref (G.1 + k'))) ⟨_, e1, q2, q3, t_set q4 hap hj _⟩ (fun i _ => vp_updV_set (by rw [zfs_len (e := (ci, n, rs))]; show j < (zfl ci).length; omega) _ i)
theorem zA_putIF {index ci j k n : Nat} {v : Int} {rs : List (Option Nat)} (hX : X.1 = true) (hf : zFFI own index ci j) (hk : znth T k = some (ci, n, rs)) (hd : decode cc pc = .ok (.putfield index, 3)) (kk : zA own cc nL R X T cs (zup μ k j v) (pc + 3) ls st P) : zA own cc nL R X T cs μ pc ls (zI v :: zR k :: st) P := by
  intro G p l e s m args below meth c H locs la Q hC hH hL hst hlo hQ
  obtain ⟨q, hc, hj, hfl, hw, hty, hfin, hdecl⟩ := hf
  obtain ⟨hlen, hci⟩ := zcl_len ci q hc
  obtain ⟨ty0, hty0⟩ := zcl_ty ci q hc
  have hat := zW_at (G := G) (μ := μ) hk
  rw [zE_o (e := (ci, n, rs)) hci] at hat
  have hts := hC.2.2.2.2.1
  have hin := zcl_in ci q hc
  have hK := hC.2.2.2.2.2.1.1
  have hown := hC.2.2.2.1
  have hap := va_apart (own := own) hts hin ty0 hty0 (zcl_nm ci q hc) hK hc
  obtain ⟨r, h1, cell, q1, q2, q3, q4⟩ := hH.1.1 k _ hat
  have hr : r = q := Option.some.inj (h1.symm.trans hc)
  subst hr
  obtain ⟨hS, hfc, kC, hkC, hkind⟩ := hK.1 ci _ hc
  obtain ⟨cf, kf, fi, f, hi, hsl⟩ := hS j hj
  have hlay := hts _ (hin _ (u_in_lay hj))
  unfold u_lay at hlay
  rw [if_pos hfin] at hlay
  have hst0 := (u_facts hfc hkC (u_lays hts hin hj) hi).1
  have hcf : m.cls = cf := by
    obtain ⟨_, _, c', _, _, _, -, -, hf', -, -, -, hown2, -⟩ := Cond.laysFinal_spec hlay
    have e1 : c' = cf := by have := hi.symm.trans hf'; simp at this; exact this.1.symm
    rw [hdecl] at hown2
    rw [← e1]; exact Option.some.inj (hown.symm.trans hown2)
  have h6 := u_fits hfc hkC hkind (Or.inr hlay) hi (v := .int (Int32.ofInt v)) hty rfl rfl
  refine W.putFinK hC.1 hC.2.1 hown (hts _ hw) hi hst0 hcf (hC.2.2.2.2.2.2.1 hX) (by rw [q2]; exact h6) q1 q3 (by rw [hsl]; exact k2_hasslot (q4 j hj)) rfl rfl hd fun H' e1 e2 e3 => ?_
  rw [hsl] at e1 ⊢
  refine kk G p l e s m args below meth c H' _ la Q hC (zHp_put hH hk (μ' := zup μ k j v) (zE_o (e := (ci, n, rs)) hci) (fun a b h => zup_k h) (zup_r hH.1.2.2.1 (zhead hst)) ?_ e2 e3) hL (ztail (ztail hst)) hlo hQ
  refine ⟨_, hc, ?_⟩
  show t_OB (G.1 + k) _ _ _ H' (vp_V (zfs G (ci, n, rs) (zup μ k j v) k))
  rw [zfs_set (e := (ci, n, rs)) hfl]
  exact t_OB.to (V := updV (vp_V (zfs G (ci, n, rs) μ k)) j (.int (Int32.ofInt v))) ⟨_, e1, q2, q3, t_set q4 hap hj _⟩ (fun i _ => vp_updV_set (by rw [zfs_len]; show j < (zfl ci).length; omega) _ i)
theorem zA_new {index ci n : Nat} (hT : T.length < 131) (hf : zCN own index ci) (hn : (zfl ci).length = n) (hn2 : n ≤ 1000) (hR1 : cs + 1 ≤ R.cells) (hR2 : 1000 * cs + n ≤ R.slots) (hd : decode cc pc = .ok (.new index, 3)) (kk : zA own cc nL R X (T ++ [(ci, n, List.replicate n none)]) (cs + 1) μ (pc + 3) ls (zR T.length :: st) P) : zA own cc nL R X T cs μ pc ls st P := by
  intro G p l e s m args below meth c H locs la Q hC hH hL hst hlo hQ
  obtain ⟨q, hc, hcl, hins, hini, ty0, hty0, hdef⟩ := hf
  obtain ⟨hlen, hci⟩ := zcl_len ci q hc
  have hts := hC.2.2.2.2.1
  have hin := zcl_in ci q hc
  have hKn := hC.2.2.2.2.2.1.1.1 ci _ hc
  have hnq : q.2.2 = n := by omega
  have hsz : H.size = G.1 + T.length := hH.1.2.1 hT
  refine W.newcK hC.1 hC.2.1 hC.2.2.2.1 (hts _ hcl) (hts _ hins) (hts _ hini) rfl hd hR1 (by rw [hnq]; exact hR2) hKn.2.1 hsz fun H1 kC hkC e1 z1 o1 => ?_
  refine W.widen (k := cs + 1) (n := 1000 * (cs + 1)) (Nat.le_refl _) (by omega) ?_
  refine kk G p l e s m args below meth c H1 locs la Q hC (zHp_new hH hT ?_ (by rw [z1, hsz]) (fun x hx => o1 x (by omega))) hL (zcons (v := zR T.length) trivial hst) hlo hQ
  rw [zE_o (e := (ci, n, List.replicate n none)) hci]
  refine ⟨_, hc, (u_born ty0 hts hin hKn hkC e1 hty0).to (fun j hj => ?_)⟩
  show defaultValue (ty0 j) = vp_V (zfs G (ci, n, List.replicate n none) μ T.length) j
  have hj2 : j < (zfl ci).length := by omega
  unfold vp_V
  rw [List.getD_eq_getElem?_getD, zfs_at (e := (ci, n, List.replicate n none)) hj2, hdef j hj, Option.getD_some]
  unfold zfv
  have hz : μ T.length j = 0 := hH.1.2.2.2 _ _ (Nat.le_refl _)
  cases hfl : znth (zfl ci) j with
  | none => simp only [hz]; rfl
  | some b =>
    cases b with
    | false => simp only [hz]; rfl
    | true =>
      simp only
      rw [znth_get, List.getElem?_replicate]
      split <;> rfl
theorem zA_newI {n : Int} (hT : T.length < 131) (hw : Cond.arrayClass .int ∈ zws) (h0 : 0 ≤ n) (hn2 : n ≤ 1000) (hR1 : cs + 1 ≤ R.cells) (hR2 : 1000 * cs + n.toNat ≤ R.slots) (hd : decode cc pc = .ok (.newarray .int, 2)) (kk : zA own cc nL R X (T ++ [(10, n.toNat, [])]) (cs + 1) μ (pc + 2) ls (zR T.length :: st) P) : zA own cc nL R X T cs μ pc ls (zI n :: st) P := by
  intro G p l e s m args below meth c H locs la Q hC hH hL hst hlo hQ
  have hz : zr n := zhead hst
  have hsz : H.size = G.1 + T.length := hH.1.2.1 hT
  refine va_newaK (atype := .int) hC.1 hC.2.1 (hC.2.2.2.2.1 _ hw) rfl hd rfl (by rw [zo_0, zo_lt hz zr_0]; omega) (zo_clamp hz) (by show n.toNat * 4 ≤ _; omega) hR1 hR2 hsz fun H1 cA e1 z1 o1 hAr hNm => ?_
  have hcA : cA = G.2.2.2.1 := Option.some.inj (hNm.symm.trans (hC.2.2.2.2.2.1.1.2 0 _ rfl).2)
  subst hcA
  refine W.widen (k := cs + 1) (n := 1000 * (cs + 1)) (Nat.le_refl _) (by omega) ?_
  refine kk G p l e s m args below meth c H1 locs la Q hC (zHp_new hH hT ?_ (by rw [z1, hsz]) (fun x hx => o1 x (by omega))) hL (zcons (v := zR T.length) trivial (ztail hst)) hlo hQ
  show H1[G.1 + T.length]? = some (vp_cell _ _)
  rw [e1, vp_cell_i]
  congr 2
  funext j
  rw [hH.1.2.2.2 _ _ (Nat.le_refl _)]
  rfl
theorem zA_newZ {n : Int} (hT : T.length < 131) (hw : Cond.arrayClass .boolean ∈ zws) (h0 : 0 ≤ n) (hn2 : n ≤ 1000) (hR1 : cs + 1 ≤ R.cells) (hR2 : 1000 * cs + n.toNat ≤ R.slots) (hd : decode cc pc = .ok (.newarray .boolean, 2)) (kk : zA own cc nL R X (T ++ [(11, n.toNat, [])]) (cs + 1) μ (pc + 2) ls (zR T.length :: st) P) : zA own cc nL R X T cs μ pc ls (zI n :: st) P := by
  intro G p l e s m args below meth c H locs la Q hC hH hL hst hlo hQ
  have hz : zr n := zhead hst
  have hsz : H.size = G.1 + T.length := hH.1.2.1 hT
  refine va_newaK (atype := .boolean) hC.1 hC.2.1 (hC.2.2.2.2.1 _ hw) rfl hd rfl (by rw [zo_0, zo_lt hz zr_0]; omega) (zo_clamp hz) (by show n.toNat * 1 ≤ _; omega) hR1 hR2 hsz fun H1 cA e1 z1 o1 hAr hNm => ?_
  have hcA : cA = G.2.2.2.2.1 := Option.some.inj (hNm.symm.trans (hC.2.2.2.2.2.1.1.2 1 _ rfl).2)
  subst hcA
  refine W.widen (k := cs + 1) (n := 1000 * (cs + 1)) (Nat.le_refl _) (by omega) ?_
  refine kk G p l e s m args below meth c H1 locs la Q hC (zHp_new hH hT ?_ (by rw [z1, hsz]) (fun x hx => o1 x (by omega))) hL (zcons (v := zR T.length) trivial (ztail hst)) hlo hQ
  show H1[G.1 + T.length]? = some (vp_cell _ _)
  rw [e1, vp_cell_i]
  congr 2
  funext j
  rw [hH.1.2.2.2 _ _ (Nat.le_refl _)]
  rfl
theorem zA_anewS {index : Nat} {n : Int} (hT : T.length < 131) (hl : Cond.classLink own index RX7 ∈ zws) (ho : zNs (Cond.arrayOver (.object RX7))) (h0 : 0 ≤ n) (hn2 : n ≤ 1000) (hR1 : cs + 1 ≤ R.cells) (hR2 : 1000 * cs + n.toNat ≤ R.slots) (hd : decode cc pc = .ok (.anewarray index, 3)) (kk : zA own cc nL R X (T ++ [(12, n.toNat, List.replicate n.toNat none)]) (cs + 1) μ (pc + 3) ls (zR T.length :: st) P) : zA own cc nL R X T cs μ pc ls (zI n :: st) P := by
  intro G p l e s m args below meth c H locs la Q hC hH hL hst hlo hQ
  have hz : zr n := zhead hst
  have hsz : H.size = G.1 + T.length := hH.1.2.1 hT
  refine W.anew hC.1 hC.2.1 hC.2.2.2.1 (hC.2.2.2.2.1 _ hl) (va_AO.use (hC.2.2.2.2.2.1.2 _ ho)) rfl hd rfl (by rw [zo_0, zo_lt hz zr_0]; omega) (by rw [zo_clamp hz]; omega) hR1 (by rw [zo_clamp hz]; exact hR2) fun cA kA comp f1 f2 f3 f4 => ?_
  rw [zo_clamp hz]
  obtain ⟨kA', comp', g1, g2, g3, g4⟩ := (hC.2.2.2.2.2.1.1.2 2 _ rfl).2
  have hcA : cA = G.2.2.2.2.2.1 := Option.some.inj (f1.symm.trans g4)
  subst hcA
  refine W.widen (k := cs + 1) (n := 1000 * (cs + 1)) (Nat.le_refl _) (by omega) ?_
  have he : (({ F0 m pc la ((zI n :: st).map (zc G)) with pc := pc + 3, stack := .ref H.size :: st.map (zc G) } : JFrame)) = F0 m (pc + 3) la ((zR T.length :: st).map (zc G)) := by
    rw [hsz]; rfl
  refine W.eq he ?_
  refine kk G p l e s m args below meth c _ locs la Q hC (zHp_new hH hT ?_ (by simp) (fun x hx => by rw [Array.getElem?_push, if_neg (Nat.ne_of_lt hx)])) hL (zcons (v := zR T.length) trivial (ztail hst)) hlo hQ
  show (H.push _)[G.1 + T.length]? = some (vp_cell _ _)
  rw [← hsz, vp_cell_q, arrV_new]
  simp only [Array.getElem?_push_size]
  congr 2
  funext j
  rw [znth_get, List.getElem?_replicate]
  split <;> rfl
theorem zA_aast {k k' n nS : Nat} {i : Int} {rs rS : List (Option Nat)} (hk : znth T k = some (12, n, rs)) (hk' : znth T k' = some (7, nS, rS)) (h0 : 0 ≤ i) (h1 : i < n) (hl : i.toNat < rs.length) (hd : decode cc pc = .ok (.aastore, 1)) (kk : zA own cc nL R X (T.set k (12, n, rs.set i.toNat (some k'))) cs μ (pc + 1) ls st P) : zA own cc nL R X T cs μ pc ls (zR k' :: zI i :: zR k :: st) P := by
  intro G p l e s m args below meth c H locs la Q hC hH hL hst hlo hQ
  have hz : zr i := zhead (ztail hst)
  have hK := hC.2.2.2.2.2.1.1
  have hat := zW_at (G := G) (μ := μ) hk
  have hat' := zW_at (G := G) (μ := μ) hk'
  rw [zE_o (e := (7, nS, rS)) (show 7 < 10 by decide)] at hat'
  obtain ⟨r', hr', cellV, g1, g2, g3, -⟩ := hH.1.1 k' _ hat'
  have hcls := (hK.1 7 _ rfl).2
  obtain ⟨kA, comp, k1, k2, k3, -⟩ := (hK.2 2 _ rfl).2
  have hcomp : comp = G.2.2.1.1 7 := Option.some.inj (k3.symm.trans hcls.1)
  subst hcomp
  obtain ⟨kC, hkC, -⟩ := hcls.2
  refine W.aast hC.1 hC.2.1 (hH.1.1 k _ hat) (fun q h => by cases h) (fun h => by cases h) k1 k2 rfl hkC ⟨by rw [zo_0, zo_lt hz zr_0]; omega, by show _ < (arrV _ _ _).slots.size; rw [arrV_size, zo_clamp hz]; show _ < n; omega⟩ g1 (fun q h => by rw [g3] at h; cases h) (by rw [g2]; exact hkC) (by rw [g2]; exact va_assign hcls) rfl rfl hd fun H1 e1 z oq => ?_
  rw [zo_clamp hz] at e1 ⊢
  refine kk G p l e s m args below meth c H1 _ la Q hC (zHp_ref (e' := (12, n, rs.set i.toNat (some k'))) hH hk ?_ z oq) hL (ztail (ztail (ztail hst))) hlo hQ
  show H1[G.1 + k]? = some (vp_cell _ _)
  rw [e1]
  refine congrArg some ?_
  show (vp_cell G.2.2.2.2.2.1 (n, .inr (.inr (.inr (.inr (fun i => zrf G ((znth rs i).getD none))))))).setSlot i.toNat (.ref (G.1 + k')) = _
  rw [vp_cell_q, vp_cell_q, arrV_store]
  congr 1
  funext q
  by_cases hq : q = i.toNat
  · subst hq
    simp [updV, znth_set, hl, zrf, va_rf]
  · simp only [updV]
    rw [if_neg hq]
    show _ = va_rf (zrf G ((znth (rs.set i.toNat (some k')) q).getD none))
    rw [znth_set, if_neg (fun h => hq h.symm)]
end ZAll
