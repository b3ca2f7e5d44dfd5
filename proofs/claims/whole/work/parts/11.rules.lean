/-! ===== rules of zA: numbers, stack, locals, branches ===== -/
theorem zcons {v : zV} {st : List zV} (hv : zok v) (h : ∀ w, w ∈ st → zok w) : ∀ w, w ∈ v :: st → zok w := fun w hw => by
  rcases List.mem_cons.mp hw with rfl | q
  · exact hv
  · exact h w q
theorem ztail {v : zV} {st : List zV} (h : ∀ w, w ∈ v :: st → zok w) : ∀ w, w ∈ st → zok w := fun w hw => h w (List.mem_cons_of_mem _ hw)
theorem zhead {v : zV} {st : List zV} (h : ∀ w, w ∈ v :: st → zok w) : zok v := h v List.mem_cons_self
theorem zo_b {n : Int} (h : -128 ≤ n ∧ n ≤ 127) : (Int8.ofInt n).toInt32 = Int32.ofInt n := by
  apply Int32.toInt_inj.mp
  rw [Int8.toInt_toInt32, Int8.toInt_ofInt_of_le (by omega) (by omega), zo_toInt ⟨by omega, by omega⟩]
theorem zo_s {n : Int} (h : -32768 ≤ n ∧ n ≤ 32767) : (Int16.ofInt n).toInt32 = Int32.ofInt n := by
  apply Int32.toInt_inj.mp
  rw [Int16.toInt_toInt32, Int16.toInt_ofInt_of_le (by omega) (by omega), zo_toInt ⟨by omega, by omega⟩]
theorem zst_ok {ls : List (Option zV)} {i : Nat} {v : zV} (hv : zok v) (h : ∀ i v, znth ls i = some (some v) → zok v) : ∀ j w, znth (zst ls i v) j = some (some w) → zok w := fun j w hj => by
  rcases zst_at ls i v j w hj with ⟨-, rfl⟩ | ⟨-, h2, -⟩
  · exact hv
  · exact h j w h2
theorem zst2_ok {ls : List (Option zV)} {i : Nat} {v : zV} (hv : zok v) (h : ∀ i v, znth ls i = some (some v) → zok v) : ∀ j w, znth (zst2 ls i v) j = some (some w) → zok w := fun j w hj => by
  rcases zst2_at ls i v j w hj with ⟨-, rfl⟩ | ⟨-, -, h2, -⟩
  · exact hv
  · exact h j w h2
theorem zr_dec {v : Int} (h : decide (-2147483648 ≤ v ∧ v ≤ 2147483647) = true) : zr v := by have := of_decide_eq_true h; exact this
theorem zrl_dec {v : Int} (h : decide (-9223372036854775808 ≤ v ∧ v ≤ 9223372036854775807) = true) : zrl v := by have := of_decide_eq_true h; exact this
section ZRules
variable {own : String} {cc : ByteArray} {nL : Nat} {R : Room} {X : zX} {T : zT} {cs : Nat} {μ : zM} {pc : Nat} {ls : List (Option zV)} {st : List zV} {P : zP}
theorem zA_iconst {n : Int} (hd : decode cc pc = .ok (.iconst n, 1)) (hz : decide (-2147483648 ≤ n ∧ n ≤ 2147483647) = true) (kk : zA own cc nL R X T cs μ (pc + 1) ls (zI n :: st) P) : zA own cc nL R X T cs μ pc ls st P := by
  intro G p l e s m args below meth c H locs la Q hC hH hL hst hlo hQ
  exact lv_iconst hC.1 hC.2.1 hd rfl (kk G p l e s m args below meth c H locs la Q hC hH hL (zcons (v := zI n) (zr_dec hz) hst) hlo hQ)
theorem zA_bipush {n : Int} (hd : decode cc pc = .ok (.bipush n, 2)) (hz : decide (-128 ≤ n ∧ n ≤ 127) = true) (kk : zA own cc nL R X T cs μ (pc + 2) ls (zI n :: st) P) : zA own cc nL R X T cs μ pc ls st P := by
  intro G p l e s m args below meth c H locs la Q hC hH hL hst hlo hQ
  have hz := of_decide_eq_true hz
  exact lv_bipush hC.1 hC.2.1 hd (zo_b hz) (kk G p l e s m args below meth c H locs la Q hC hH hL (zcons (v := zI n) ⟨by omega, by omega⟩ hst) hlo hQ)
theorem zA_sipush {n : Int} (hd : decode cc pc = .ok (.sipush n, 3)) (hz : decide (-32768 ≤ n ∧ n ≤ 32767) = true) (kk : zA own cc nL R X T cs μ (pc + 3) ls (zI n :: st) P) : zA own cc nL R X T cs μ pc ls st P := by
  intro G p l e s m args below meth c H locs la Q hC hH hL hst hlo hQ
  have hz := of_decide_eq_true hz
  exact lv_sipush hC.1 hC.2.1 hd (zo_s hz) (kk G p l e s m args below meth c H locs la Q hC hH hL (zcons (v := zI n) ⟨by omega, by omega⟩ hst) hlo hQ)
theorem zA_lconst {n : Fin 2} {v : Int} (hd : decode cc pc = .ok (.lconst n, 1)) (hv : Int64.ofNat (n : Nat) = Int64.ofInt v) (hz : decide (-1000 ≤ v ∧ v ≤ 1000) = true) (kk : zA own cc nL R X T cs μ (pc + 1) ls (zL v :: st) P) : zA own cc nL R X T cs μ pc ls st P := by
  intro G p l e s m args below meth c H locs la Q hC hH hL hst hlo hQ
  have hz := of_decide_eq_true hz
  exact lv_lconst hC.1 hC.2.1 hd hv (kk G p l e s m args below meth c H locs la Q hC hH hL (zcons (v := zL v) ⟨by omega, by omega⟩ hst) hlo hQ)
theorem zA_ldc {index : Nat} {v : Int} (hw : Cond.constant own index (Int32.ofInt v) ∈ zws) (hd : decode cc pc = .ok (.ldc index, 2)) (hz : decide (-2147483648 ≤ v ∧ v ≤ 2147483647) = true) (kk : zA own cc nL R X T cs μ (pc + 2) ls (zI v :: st) P) : zA own cc nL R X T cs μ pc ls st P := by
  intro G p l e s m args below meth c H locs la Q hC hH hL hst hlo hQ
  exact lv_ldc hC.1 hC.2.1 hC.2.2.2.1 (hC.2.2.2.2.1 _ hw) hd (kk G p l e s m args below meth c H locs la Q hC hH hL (zcons (v := zI v) (zr_dec hz) hst) hlo hQ)
theorem zA_ldcw {index : Nat} {v : Int} (hw : Cond.constant own index (Int32.ofInt v) ∈ zws) (hd : decode cc pc = .ok (.ldc_w index, 3)) (hz : decide (-2147483648 ≤ v ∧ v ≤ 2147483647) = true) (kk : zA own cc nL R X T cs μ (pc + 3) ls (zI v :: st) P) : zA own cc nL R X T cs μ pc ls st P := by
  intro G p l e s m args below meth c H locs la Q hC hH hL hst hlo hQ
  exact lv_ldcw hC.1 hC.2.1 hC.2.2.2.1 (hC.2.2.2.2.1 _ hw) hd (kk G p l e s m args below meth c H locs la Q hC hH hL (zcons (v := zI v) (zr_dec hz) hst) hlo hQ)
theorem zA_ldc2 {index : Nat} {v : Int} (hw : Cond.constantLong own index (Int64.ofInt v) ∈ zws) (hd : decode cc pc = .ok (.ldc2_w index, 3)) (hz : decide (-9223372036854775808 ≤ v ∧ v ≤ 9223372036854775807) = true) (kk : zA own cc nL R X T cs μ (pc + 3) ls (zL v :: st) P) : zA own cc nL R X T cs μ pc ls st P := by
  intro G p l e s m args below meth c H locs la Q hC hH hL hst hlo hQ
  exact lv_ldc2 hC.1 hC.2.1 hC.2.2.2.1 (hC.2.2.2.2.1 _ hw) hd (kk G p l e s m args below meth c H locs la Q hC hH hL (zcons (v := zL v) (zrl_dec hz) hst) hlo hQ)
theorem zA_iload_n {k : Fin 4} {v : Int} (hd : decode cc pc = .ok (.iload_n k, 1)) (hl : znth ls k.val = some (some (zI v))) (kk : zA own cc nL R X T cs μ (pc + 1) ls (zI v :: st) P) : zA own cc nL R X T cs μ pc ls st P := by
  intro G p l e s m args below meth c H locs la Q hC hH hL hst hlo hQ
  exact lv_iload_n hC.1 hC.2.1 hd rfl (hL.2.2 _ _ hl) (kk G p l e s m args below meth c H locs la Q hC hH hL (zcons (hlo _ _ hl) hst) hlo hQ)
theorem zA_iload {i : Nat} {v : Int} (hd : decode cc pc = .ok (.iload i, 2)) (hl : znth ls i = some (some (zI v))) (kk : zA own cc nL R X T cs μ (pc + 2) ls (zI v :: st) P) : zA own cc nL R X T cs μ pc ls st P := by
  intro G p l e s m args below meth c H locs la Q hC hH hL hst hlo hQ
  exact lv_iload hC.1 hC.2.1 hd (hL.2.2 _ _ hl) (kk G p l e s m args below meth c H locs la Q hC hH hL (zcons (hlo _ _ hl) hst) hlo hQ)
theorem zA_aload_n {k : Fin 4} {v : Nat} (hd : decode cc pc = .ok (.aload_n k, 1)) (hl : znth ls k.val = some (some (zR v))) (kk : zA own cc nL R X T cs μ (pc + 1) ls (zR v :: st) P) : zA own cc nL R X T cs μ pc ls st P := by
  intro G p l e s m args below meth c H locs la Q hC hH hL hst hlo hQ
  exact lv_aload_n hC.1 hC.2.1 hd rfl (hL.2.2 _ _ hl) (kk G p l e s m args below meth c H locs la Q hC hH hL (zcons (hlo _ _ hl) hst) hlo hQ)
theorem zA_aload {i : Nat} {v : Nat} (hd : decode cc pc = .ok (.aload i, 2)) (hl : znth ls i = some (some (zR v))) (kk : zA own cc nL R X T cs μ (pc + 2) ls (zR v :: st) P) : zA own cc nL R X T cs μ pc ls st P := by
  intro G p l e s m args below meth c H locs la Q hC hH hL hst hlo hQ
  exact lv_aload hC.1 hC.2.1 hd (hL.2.2 _ _ hl) (kk G p l e s m args below meth c H locs la Q hC hH hL (zcons (hlo _ _ hl) hst) hlo hQ)
theorem zA_lload_n {k : Fin 4} {v : Int} (hd : decode cc pc = .ok (.lload_n k, 1)) (hl : znth ls k.val = some (some (zL v))) (kk : zA own cc nL R X T cs μ (pc + 1) ls (zL v :: st) P) : zA own cc nL R X T cs μ pc ls st P := by
  intro G p l e s m args below meth c H locs la Q hC hH hL hst hlo hQ
  exact lv_lload_n hC.1 hC.2.1 hd rfl (hL.2.2 _ _ hl) (kk G p l e s m args below meth c H locs la Q hC hH hL (zcons (hlo _ _ hl) hst) hlo hQ)
theorem zA_lload {i : Nat} {v : Int} (hd : decode cc pc = .ok (.lload i, 2)) (hl : znth ls i = some (some (zL v))) (kk : zA own cc nL R X T cs μ (pc + 2) ls (zL v :: st) P) : zA own cc nL R X T cs μ pc ls st P := by
  intro G p l e s m args below meth c H locs la Q hC hH hL hst hlo hQ
  exact lv_lload hC.1 hC.2.1 hd (hL.2.2 _ _ hl) (kk G p l e s m args below meth c H locs la Q hC hH hL (zcons (hlo _ _ hl) hst) hlo hQ)
theorem zA_sload_n {k : Fin 4} (hd : decode cc pc = .ok (.aload_n k, 1)) (hl : znth ls k.val = some (some zS)) (kk : zA own cc nL R X T cs μ (pc + 1) ls (zS :: st) P) : zA own cc nL R X T cs μ pc ls st P := by
  intro G p l e s m args below meth c H locs la Q hC hH hL hst hlo hQ
  exact lv_aload_n hC.1 hC.2.1 hd rfl (hL.2.2 _ _ hl) (kk G p l e s m args below meth c H locs la Q hC hH hL (zcons (hlo _ _ hl) hst) hlo hQ)
theorem zA_istore_n {k : Fin 4} {v : Int} {ls' : List (Option zV)} (hd : decode cc pc = .ok (.istore_n k, 1)) (hn : Nat.blt k.val nL = true) (hl : zst ls k.val (zI v) = ls') (kk : zA own cc nL R X T cs μ (pc + 1) ls' st P) : zA own cc nL R X T cs μ pc ls (zI v :: st) P := by
  intro G p l e s m args below meth c H locs la Q hC hH hL hst hlo hQ
  subst hl
  exact lv_istore_n hC.1 hC.2.1 hd rfl hL.has (by simpa using hn) rfl fun la' hla => kk G p l e s m args below meth c H locs la' Q hC hH (zLs.st hla) (ztail hst) (zst_ok (zhead hst) hlo) hQ
theorem zA_istore {i : Nat} {v : Int} {ls' : List (Option zV)} (hd : decode cc pc = .ok (.istore i, 2)) (hn : Nat.blt i nL = true) (hl : zst ls i (zI v) = ls') (kk : zA own cc nL R X T cs μ (pc + 2) ls' st P) : zA own cc nL R X T cs μ pc ls (zI v :: st) P := by
  intro G p l e s m args below meth c H locs la Q hC hH hL hst hlo hQ
  subst hl
  exact lv_istore hC.1 hC.2.1 hd hL.has (by simpa using hn) rfl fun la' hla => kk G p l e s m args below meth c H locs la' Q hC hH (zLs.st hla) (ztail hst) (zst_ok (zhead hst) hlo) hQ
theorem zA_astore_n {k : Fin 4} {v : Nat} {ls' : List (Option zV)} (hd : decode cc pc = .ok (.astore_n k, 1)) (hn : Nat.blt k.val nL = true) (hl : zst ls k.val (zR v) = ls') (kk : zA own cc nL R X T cs μ (pc + 1) ls' st P) : zA own cc nL R X T cs μ pc ls (zR v :: st) P := by
  intro G p l e s m args below meth c H locs la Q hC hH hL hst hlo hQ
  subst hl
  exact lv_astore_n hC.1 hC.2.1 hd rfl hL.has (by simpa using hn) rfl fun la' hla => kk G p l e s m args below meth c H locs la' Q hC hH (zLs.st hla) (ztail hst) (zst_ok (zhead hst) hlo) hQ
theorem zA_astore {i : Nat} {v : Nat} {ls' : List (Option zV)} (hd : decode cc pc = .ok (.astore i, 2)) (hn : Nat.blt i nL = true) (hl : zst ls i (zR v) = ls') (kk : zA own cc nL R X T cs μ (pc + 2) ls' st P) : zA own cc nL R X T cs μ pc ls (zR v :: st) P := by
  intro G p l e s m args below meth c H locs la Q hC hH hL hst hlo hQ
  subst hl
  exact lv_astore hC.1 hC.2.1 hd hL.has (by simpa using hn) rfl fun la' hla => kk G p l e s m args below meth c H locs la' Q hC hH (zLs.st hla) (ztail hst) (zst_ok (zhead hst) hlo) hQ
theorem zA_lstore {i : Nat} {v : Int} {ls' : List (Option zV)} (hd : decode cc pc = .ok (.lstore i, 2)) (hn : Nat.blt (i + 1) nL = true) (hl : zst2 ls i (zL v) = ls') (kk : zA own cc nL R X T cs μ (pc + 2) ls' st P) : zA own cc nL R X T cs μ pc ls (zL v :: st) P := by
  intro G p l e s m args below meth c H locs la Q hC hH hL hst hlo hQ
  subst hl
  exact lv_lstore hC.1 hC.2.1 hd hL.has (by simpa using hn) rfl fun la' hla => kk G p l e s m args below meth c H locs la' Q hC hH (zLs.st2 hla) (ztail hst) (zst2_ok (zhead hst) hlo) hQ
theorem zA_iinc {i : Nat} {n v : Int} {ls' : List (Option zV)} (hd : decode cc pc = .ok (.iinc i n, 3)) (hn : Nat.blt i nL = true) (hv : znth ls i = some (some (zI v))) (hl : zst ls i (zI (zwi (v + n))) = ls') (kk : zA own cc nL R X T cs μ (pc + 3) ls' st P) : zA own cc nL R X T cs μ pc ls st P := by
  intro G p l e s m args below meth c H locs la Q hC hH hL hst hlo hQ
  subst hl
  obtain ⟨k, hk⟩ := List.mem_iff_getElem?.mp (zal_mem (G := G) hv)
  exact lv_iinc hC.1 hC.2.1 hd hL.has hk (zo_add v n) (by simpa using hn) rfl fun la' hla => kk G p l e s m args below meth c H locs la' Q hC hH (zLs.st hla) hst (zst_ok (v := zI (zwi (v + n))) (zr_wi _) hlo) hQ
theorem zA_iadd {a b : Int} (hd : decode cc pc = .ok (.iadd, 1)) (kk : zA own cc nL R X T cs μ (pc + 1) ls (zI (zwi (a + b)) :: st) P) : zA own cc nL R X T cs μ pc ls (zI b :: zI a :: st) P := by
  intro G p l e s m args below meth c H locs la Q hC hH hL hst hlo hQ
  have h := kk G p l e s m args below meth c H locs la Q hC hH hL (zcons (v := zI (zwi (a + b))) (zr_wi _) (ztail (ztail hst))) hlo hQ
  refine lv_iadd hC.1 hC.2.1 hd ?_
  rw [zo_add a b]
  exact h
theorem zA_isub {a b : Int} (hd : decode cc pc = .ok (.isub, 1)) (kk : zA own cc nL R X T cs μ (pc + 1) ls (zI (zwi (a - b)) :: st) P) : zA own cc nL R X T cs μ pc ls (zI b :: zI a :: st) P := by
  intro G p l e s m args below meth c H locs la Q hC hH hL hst hlo hQ
  have h := kk G p l e s m args below meth c H locs la Q hC hH hL (zcons (v := zI (zwi (a - b))) (zr_wi _) (ztail (ztail hst))) hlo hQ
  refine lv_isub hC.1 hC.2.1 hd ?_
  rw [zo_sub a b]
  exact h
theorem zA_imul {a b : Int} (hd : decode cc pc = .ok (.imul, 1)) (kk : zA own cc nL R X T cs μ (pc + 1) ls (zI (zwi (a * b)) :: st) P) : zA own cc nL R X T cs μ pc ls (zI b :: zI a :: st) P := by
  intro G p l e s m args below meth c H locs la Q hC hH hL hst hlo hQ
  have h := kk G p l e s m args below meth c H locs la Q hC hH hL (zcons (v := zI (zwi (a * b))) (zr_wi _) (ztail (ztail hst))) hlo hQ
  refine lv_imul hC.1 hC.2.1 hd ?_
  rw [zo_mul a b]
  exact h
theorem zA_iand {a b : Int} (hd : decode cc pc = .ok (.iand, 1)) (kk : zA own cc nL R X T cs μ (pc + 1) ls (zI (zand a b) :: st) P) : zA own cc nL R X T cs μ pc ls (zI b :: zI a :: st) P := by
  intro G p l e s m args below meth c H locs la Q hC hH hL hst hlo hQ
  have h := kk G p l e s m args below meth c H locs la Q hC hH hL (zcons (v := zI (zand a b)) (zr_of _) (ztail (ztail hst))) hlo hQ
  refine lv_iand hC.1 hC.2.1 hd ?_
  simp only [List.map_cons, zc, zand, zor, zxor, zshl, zshr, zo_back] at h
  exact h
theorem zA_ior {a b : Int} (hd : decode cc pc = .ok (.ior, 1)) (kk : zA own cc nL R X T cs μ (pc + 1) ls (zI (zor a b) :: st) P) : zA own cc nL R X T cs μ pc ls (zI b :: zI a :: st) P := by
  intro G p l e s m args below meth c H locs la Q hC hH hL hst hlo hQ
  have h := kk G p l e s m args below meth c H locs la Q hC hH hL (zcons (v := zI (zor a b)) (zr_of _) (ztail (ztail hst))) hlo hQ
  refine lv_ior hC.1 hC.2.1 hd ?_
  simp only [List.map_cons, zc, zand, zor, zxor, zshl, zshr, zo_back] at h
  exact h
theorem zA_ixor {a b : Int} (hd : decode cc pc = .ok (.ixor, 1)) (kk : zA own cc nL R X T cs μ (pc + 1) ls (zI (zxor a b) :: st) P) : zA own cc nL R X T cs μ pc ls (zI b :: zI a :: st) P := by
  intro G p l e s m args below meth c H locs la Q hC hH hL hst hlo hQ
  have h := kk G p l e s m args below meth c H locs la Q hC hH hL (zcons (v := zI (zxor a b)) (zr_of _) (ztail (ztail hst))) hlo hQ
  refine lv_ixor hC.1 hC.2.1 hd ?_
  simp only [List.map_cons, zc, zand, zor, zxor, zshl, zshr, zo_back] at h
  exact h
theorem zA_ishl {a b : Int} (hd : decode cc pc = .ok (.ishl, 1)) (kk : zA own cc nL R X T cs μ (pc + 1) ls (zI (zshl a b) :: st) P) : zA own cc nL R X T cs μ pc ls (zI b :: zI a :: st) P := by
  intro G p l e s m args below meth c H locs la Q hC hH hL hst hlo hQ
  have h := kk G p l e s m args below meth c H locs la Q hC hH hL (zcons (v := zI (zshl a b)) (zr_of _) (ztail (ztail hst))) hlo hQ
  refine lv_ishl hC.1 hC.2.1 hd ?_
  simp only [List.map_cons, zc, zand, zor, zxor, zshl, zshr, zo_back] at h
  exact h
theorem zA_ishr {a b : Int} (hd : decode cc pc = .ok (.ishr, 1)) (kk : zA own cc nL R X T cs μ (pc + 1) ls (zI (zshr a b) :: st) P) : zA own cc nL R X T cs μ pc ls (zI b :: zI a :: st) P := by
  intro G p l e s m args below meth c H locs la Q hC hH hL hst hlo hQ
  have h := kk G p l e s m args below meth c H locs la Q hC hH hL (zcons (v := zI (zshr a b)) (zr_of _) (ztail (ztail hst))) hlo hQ
  refine lv_ishr hC.1 hC.2.1 hd ?_
  simp only [List.map_cons, zc, zand, zor, zxor, zshl, zshr, zo_back] at h
  exact h
theorem zA_iushr {a b : Int} (hd : decode cc pc = .ok (.iushr, 1)) (kk : zA own cc nL R X T cs μ (pc + 1) ls (zI (zushr a b) :: st) P) : zA own cc nL R X T cs μ pc ls (zI b :: zI a :: st) P := by
  intro G p l e s m args below meth c H locs la Q hC hH hL hst hlo hQ
  have h := kk G p l e s m args below meth c H locs la Q hC hH hL (zcons (v := zI (zushr a b)) (zr_of _) (ztail (ztail hst))) hlo hQ
  refine lv_iushr hC.1 hC.2.1 hd rfl ?_
  simp only [List.map_cons, zc, zushr, zo_back] at h
  exact h
theorem zA_idiv {a b : Int} (hd : decode cc pc = .ok (.idiv, 1)) (hb : b ≠ 0) (kk : zA own cc nL R X T cs μ (pc + 1) ls (zI (zwi (a.tdiv b)) :: st) P) : zA own cc nL R X T cs μ pc ls (zI b :: zI a :: st) P := by
  intro G p l e s m args below meth c H locs la Q hC hH hL hst hlo hQ
  have h := kk G p l e s m args below meth c H locs la Q hC hH hL (zcons (v := zI (zwi (a.tdiv b))) (zr_wi _) (ztail (ztail hst))) hlo hQ
  have h1 : zr b := zhead hst
  have h2 : zr a := zhead (ztail hst)
  refine lv_idiv hC.1 hC.2.1 hd (fun q => hb ((zo_inj h1 zr_0).mp q)) ?_
  rw [zo_div h2 h1]
  exact h
theorem zA_irem {a b : Int} (hd : decode cc pc = .ok (.irem, 1)) (hb : b ≠ 0) (kk : zA own cc nL R X T cs μ (pc + 1) ls (zI (a.tmod b) :: st) P) : zA own cc nL R X T cs μ pc ls (zI b :: zI a :: st) P := by
  intro G p l e s m args below meth c H locs la Q hC hH hL hst hlo hQ
  have h1 : zr b := zhead hst
  have h2 : zr a := zhead (ztail hst)
  have h := kk G p l e s m args below meth c H locs la Q hC hH hL (zcons (v := zI (a.tmod b)) (zr_tmod h2 h1) (ztail (ztail hst))) hlo hQ
  refine lv_irem hC.1 hC.2.1 hd (fun q => hb ((zo_inj h1 zr_0).mp q)) ?_
  rw [zo_rem h2 h1]
  exact h
theorem zA_ladd {a b : Int} (hd : decode cc pc = .ok (.ladd, 1)) (kk : zA own cc nL R X T cs μ (pc + 1) ls (zL (zwl (a + b)) :: st) P) : zA own cc nL R X T cs μ pc ls (zL b :: zL a :: st) P := by
  intro G p l e s m args below meth c H locs la Q hC hH hL hst hlo hQ
  have h := kk G p l e s m args below meth c H locs la Q hC hH hL (zcons (v := zL (zwl (a + b))) (zrl_wl _) (ztail (ztail hst))) hlo hQ
  refine lv_ladd hC.1 hC.2.1 hd ?_
  rw [zo_addL a b]
  exact h
theorem zA_lmul {a b : Int} (hd : decode cc pc = .ok (.lmul, 1)) (kk : zA own cc nL R X T cs μ (pc + 1) ls (zL (zwl (a * b)) :: st) P) : zA own cc nL R X T cs μ pc ls (zL b :: zL a :: st) P := by
  intro G p l e s m args below meth c H locs la Q hC hH hL hst hlo hQ
  have h := kk G p l e s m args below meth c H locs la Q hC hH hL (zcons (v := zL (zwl (a * b))) (zrl_wl _) (ztail (ztail hst))) hlo hQ
  refine lv_lmul hC.1 hC.2.1 hd ?_
  rw [zo_mulL a b]
  exact h
theorem zA_land {a b : Int} (hd : decode cc pc = .ok (.land, 1)) (kk : zA own cc nL R X T cs μ (pc + 1) ls (zL (zland a b) :: st) P) : zA own cc nL R X T cs μ pc ls (zL b :: zL a :: st) P := by
  intro G p l e s m args below meth c H locs la Q hC hH hL hst hlo hQ
  have h := kk G p l e s m args below meth c H locs la Q hC hH hL (zcons (v := zL (zland a b)) (zrl_of _) (ztail (ztail hst))) hlo hQ
  refine lv_land hC.1 hC.2.1 hd ?_
  simp only [List.map_cons, zc, zland, zo_backL] at h
  exact h
theorem zA_ldiv {a b : Int} (hd : decode cc pc = .ok (.ldiv, 1)) (hb : b ≠ 0) (kk : zA own cc nL R X T cs μ (pc + 1) ls (zL (zwl (a.tdiv b)) :: st) P) : zA own cc nL R X T cs μ pc ls (zL b :: zL a :: st) P := by
  intro G p l e s m args below meth c H locs la Q hC hH hL hst hlo hQ
  have h := kk G p l e s m args below meth c H locs la Q hC hH hL (zcons (v := zL (zwl (a.tdiv b))) (zrl_wl _) (ztail (ztail hst))) hlo hQ
  have h1 : zrl b := zhead hst
  have h2 : zrl a := zhead (ztail hst)
  have h0 : zrl 0 := ⟨by decide, by decide⟩
  refine lv_ldiv hC.1 hC.2.1 hd (fun q => hb (by have := congrArg Int64.toInt q; rw [zo_toIntL h1] at this; simpa using this)) ?_
  rw [zo_divL h2 h1]
  exact h
theorem zA_lrem {a b : Int} (hd : decode cc pc = .ok (.lrem, 1)) (hb : b ≠ 0) (kk : zA own cc nL R X T cs μ (pc + 1) ls (zL (a.tmod b) :: st) P) : zA own cc nL R X T cs μ pc ls (zL b :: zL a :: st) P := by
  intro G p l e s m args below meth c H locs la Q hC hH hL hst hlo hQ
  have h1 : zrl b := zhead hst
  have h2 : zrl a := zhead (ztail hst)
  have h := kk G p l e s m args below meth c H locs la Q hC hH hL (zcons (v := zL (a.tmod b)) (zrl_tmod h2 h1) (ztail (ztail hst))) hlo hQ
  refine lv_lrem hC.1 hC.2.1 hd (fun q => hb (by have := congrArg Int64.toInt q; rw [zo_toIntL h1] at this; simpa using this)) ?_
  rw [zo_remL h2 h1]
  exact h
theorem zA_i2l {a : Int} (hd : decode cc pc = .ok (.i2l, 1)) (kk : zA own cc nL R X T cs μ (pc + 1) ls (zL a :: st) P) : zA own cc nL R X T cs μ pc ls (zI a :: st) P := by
  intro G p l e s m args below meth c H locs la Q hC hH hL hst hlo hQ
  have h1 : zr a := zhead hst
  have h := kk G p l e s m args below meth c H locs la Q hC hH hL (zcons (v := zL a) ⟨by have := h1.1; omega, by have := h1.2; omega⟩ (ztail hst)) hlo hQ
  exact lv_i2l hC.1 hC.2.1 hd (zo_i2l h1) h
theorem zA_l2i {a : Int} (hd : decode cc pc = .ok (.l2i, 1)) (kk : zA own cc nL R X T cs μ (pc + 1) ls (zI (zwi a) :: st) P) : zA own cc nL R X T cs μ pc ls (zL a :: st) P := by
  intro G p l e s m args below meth c H locs la Q hC hH hL hst hlo hQ
  have h1 : zrl a := zhead hst
  have h := kk G p l e s m args below meth c H locs la Q hC hH hL (zcons (v := zI (zwi a)) (zr_wi _) (ztail hst)) hlo hQ
  exact lv_l2i hC.1 hC.2.1 hd (zo_l2i h1) h
def zcmp (a b : Int) : Int := if b < a then 1 else if a = b then 0 else -1
theorem zA_lcmp {a b : Int} (hd : decode cc pc = .ok (.lcmp, 1)) (kk : zA own cc nL R X T cs μ (pc + 1) ls (zI (zcmp a b) :: st) P) : zA own cc nL R X T cs μ pc ls (zL b :: zL a :: st) P := by
  intro G p l e s m args below meth c H locs la Q hC hH hL hst hlo hQ
  have h1 : zrl b := zhead hst
  have h2 : zrl a := zhead (ztail hst)
  have hz : zr (zcmp a b) := by
    unfold zcmp zr
    by_cases q1 : b < a
    · rw [if_pos q1]; omega
    · rw [if_neg q1]
      by_cases q2 : a = b
      · rw [if_pos q2]; omega
      · rw [if_neg q2]; omega
  have h := kk G p l e s m args below meth c H locs la Q hC hH hL (zcons (v := zI (zcmp a b)) hz (ztail (ztail hst))) hlo hQ
  refine W.lcmp hC.1 hC.2.1 hd ?_
  have he : lg_cmp (Int64.ofInt a) (Int64.ofInt b) = Int32.ofInt (zcmp a b) := by
    have q1 : (Int64.ofInt b < Int64.ofInt a) ↔ b < a := by rw [Int64.lt_iff_toInt_lt, zo_toIntL h1, zo_toIntL h2]
    have q2 : (Int64.ofInt a = Int64.ofInt b) ↔ a = b := ⟨fun q => by have := congrArg Int64.toInt q; rwa [zo_toIntL h1, zo_toIntL h2] at this, fun q => by rw [q]⟩
    unfold lg_cmp zcmp
    simp only [gt_iff_lt, q1, q2]
    by_cases q3 : b < a
    · simp [q3]
    · by_cases q4 : a = b
      · simp [q3, q4]
      · simp [q3, q4]
  rw [he]
  exact h
theorem zA_dup {v : zV} (hd : decode cc pc = .ok (.dup, 1)) (hc : zlg (some v) = false) (kk : zA own cc nL R X T cs μ (pc + 1) ls (v :: v :: st) P) : zA own cc nL R X T cs μ pc ls (v :: st) P := by
  intro G p l e s m args below meth c H locs la Q hC hH hL hst hlo hQ
  refine lv_dup hC.1 hC.2.1 hd ?_ (kk G p l e s m args below meth c H locs la Q hC hH hL (zcons (zhead hst) hst) hlo hQ)
  rcases lv_cat (zc G v) with q | q
  · exact q
  · rw [zlg_cat q] at hc; cases hc
theorem zA_dup2 {v w : zV} (hd : decode cc pc = .ok (.dup2, 1)) (hc : zlg (some v) = false) (hc2 : zlg (some w) = false) (kk : zA own cc nL R X T cs μ (pc + 1) ls (v :: w :: v :: w :: st) P) : zA own cc nL R X T cs μ pc ls (v :: w :: st) P := by
  intro G p l e s m args below meth c H locs la Q hC hH hL hst hlo hQ
  refine lv_dup2_11 hC.1 hC.2.1 hd ?_ ?_ (kk G p l e s m args below meth c H locs la Q hC hH hL (zcons (zhead hst) (zcons (zhead (ztail hst)) hst)) hlo hQ)
  · rcases lv_cat (zc G v) with q | q
    · exact q
    · rw [zlg_cat q] at hc; cases hc
  · rcases lv_cat (zc G w) with q | q
    · exact q
    · rw [zlg_cat q] at hc2; cases hc2
theorem zA_goto {off : Int} {tgt : Nat} (hd : decode cc pc = .ok (.goto off, 3)) (ht : (pc : Int) + off = (tgt : Int)) (kk : zA own cc nL R X T cs μ tgt ls st P) : zA own cc nL R X T cs μ pc ls st P := by
  intro G p l e s m args below meth c H locs la Q hC hH hL hst hlo hQ
  exact lv_goto hC.1 hC.2.1 hd ht (kk G p l e s m args below meth c H locs la Q hC hH hL hst hlo hQ)
theorem zA_icmp_eq {a b : Int} {off : Int} {tgt : Nat} (hd : decode cc pc = .ok (.if_icmp .eq off, 3)) (ht : (pc : Int) + off = (tgt : Int)) (kt : a = b → zA own cc nL R X T cs μ tgt ls st P) (kf : ¬ (a = b) → zA own cc nL R X T cs μ (pc + 3) ls st P) : zA own cc nL R X T cs μ pc ls (zI b :: zI a :: st) P := by
  intro G p l e s m args below meth c H locs la Q hC hH hL hst hlo hQ
  have h1 : zr b := zhead hst
  have h2 : zr a := zhead (ztail hst)
  exact lv_icmp_eq hC.1 hC.2.1 hd ht (fun q => kt ((zo_inj h2 h1).mp q) G p l e s m args below meth c H locs la Q hC hH hL (ztail (ztail hst)) hlo hQ) (fun q => kf (fun w => q ((zo_inj h2 h1).mpr w)) G p l e s m args below meth c H locs la Q hC hH hL (ztail (ztail hst)) hlo hQ)
theorem zA_icmp_ne {a b : Int} {off : Int} {tgt : Nat} (hd : decode cc pc = .ok (.if_icmp .ne off, 3)) (ht : (pc : Int) + off = (tgt : Int)) (kt : a ≠ b → zA own cc nL R X T cs μ tgt ls st P) (kf : a = b → zA own cc nL R X T cs μ (pc + 3) ls st P) : zA own cc nL R X T cs μ pc ls (zI b :: zI a :: st) P := by
  intro G p l e s m args below meth c H locs la Q hC hH hL hst hlo hQ
  have h1 : zr b := zhead hst
  have h2 : zr a := zhead (ztail hst)
  exact lv_icmp_ne hC.1 hC.2.1 hd ht (fun q => kt ((not_congr (zo_inj h2 h1)).mp q) G p l e s m args below meth c H locs la Q hC hH hL (ztail (ztail hst)) hlo hQ) (fun q => kf ((zo_inj h2 h1).mp q) G p l e s m args below meth c H locs la Q hC hH hL (ztail (ztail hst)) hlo hQ)
theorem zA_icmp_lt {a b : Int} {off : Int} {tgt : Nat} (hd : decode cc pc = .ok (.if_icmp .lt off, 3)) (ht : (pc : Int) + off = (tgt : Int)) (kt : a < b → zA own cc nL R X T cs μ tgt ls st P) (kf : ¬ (a < b) → zA own cc nL R X T cs μ (pc + 3) ls st P) : zA own cc nL R X T cs μ pc ls (zI b :: zI a :: st) P := by
  intro G p l e s m args below meth c H locs la Q hC hH hL hst hlo hQ
  have h1 : zr b := zhead hst
  have h2 : zr a := zhead (ztail hst)
  exact lv_icmp_lt hC.1 hC.2.1 hd ht (fun q => kt ((zo_lt h2 h1).mp q) G p l e s m args below meth c H locs la Q hC hH hL (ztail (ztail hst)) hlo hQ) (fun q => kf (fun w => q ((zo_lt h2 h1).mpr w)) G p l e s m args below meth c H locs la Q hC hH hL (ztail (ztail hst)) hlo hQ)
theorem zA_icmp_ge {a b : Int} {off : Int} {tgt : Nat} (hd : decode cc pc = .ok (.if_icmp .ge off, 3)) (ht : (pc : Int) + off = (tgt : Int)) (kt : b ≤ a → zA own cc nL R X T cs μ tgt ls st P) (kf : ¬ (b ≤ a) → zA own cc nL R X T cs μ (pc + 3) ls st P) : zA own cc nL R X T cs μ pc ls (zI b :: zI a :: st) P := by
  intro G p l e s m args below meth c H locs la Q hC hH hL hst hlo hQ
  have h1 : zr b := zhead hst
  have h2 : zr a := zhead (ztail hst)
  exact lv_icmp_ge hC.1 hC.2.1 hd ht (fun q => kt ((zo_le h1 h2).mp q) G p l e s m args below meth c H locs la Q hC hH hL (ztail (ztail hst)) hlo hQ) (fun q => kf (fun w => q ((zo_le h1 h2).mpr w)) G p l e s m args below meth c H locs la Q hC hH hL (ztail (ztail hst)) hlo hQ)
theorem zA_icmp_gt {a b : Int} {off : Int} {tgt : Nat} (hd : decode cc pc = .ok (.if_icmp .gt off, 3)) (ht : (pc : Int) + off = (tgt : Int)) (kt : b < a → zA own cc nL R X T cs μ tgt ls st P) (kf : ¬ (b < a) → zA own cc nL R X T cs μ (pc + 3) ls st P) : zA own cc nL R X T cs μ pc ls (zI b :: zI a :: st) P := by
  intro G p l e s m args below meth c H locs la Q hC hH hL hst hlo hQ
  have h1 : zr b := zhead hst
  have h2 : zr a := zhead (ztail hst)
  exact lv_icmp_gt hC.1 hC.2.1 hd ht (fun q => kt ((zo_lt h1 h2).mp q) G p l e s m args below meth c H locs la Q hC hH hL (ztail (ztail hst)) hlo hQ) (fun q => kf (fun w => q ((zo_lt h1 h2).mpr w)) G p l e s m args below meth c H locs la Q hC hH hL (ztail (ztail hst)) hlo hQ)
theorem zA_icmp_le {a b : Int} {off : Int} {tgt : Nat} (hd : decode cc pc = .ok (.if_icmp .le off, 3)) (ht : (pc : Int) + off = (tgt : Int)) (kt : a ≤ b → zA own cc nL R X T cs μ tgt ls st P) (kf : ¬ (a ≤ b) → zA own cc nL R X T cs μ (pc + 3) ls st P) : zA own cc nL R X T cs μ pc ls (zI b :: zI a :: st) P := by
  intro G p l e s m args below meth c H locs la Q hC hH hL hst hlo hQ
  have h1 : zr b := zhead hst
  have h2 : zr a := zhead (ztail hst)
  exact lv_icmp_le hC.1 hC.2.1 hd ht (fun q => kt ((zo_le h2 h1).mp q) G p l e s m args below meth c H locs la Q hC hH hL (ztail (ztail hst)) hlo hQ) (fun q => kf (fun w => q ((zo_le h2 h1).mpr w)) G p l e s m args below meth c H locs la Q hC hH hL (ztail (ztail hst)) hlo hQ)
theorem zA_if_eq {a : Int} {off : Int} {tgt : Nat} (hd : decode cc pc = .ok (.ifCond .eq off, 3)) (ht : (pc : Int) + off = (tgt : Int)) (kt : a = 0 → zA own cc nL R X T cs μ tgt ls st P) (kf : ¬ (a = 0) → zA own cc nL R X T cs μ (pc + 3) ls st P) : zA own cc nL R X T cs μ pc ls (zI a :: st) P := by
  intro G p l e s m args below meth c H locs la Q hC hH hL hst hlo hQ
  have h2 : zr a := zhead hst
  exact lv_if_eq hC.1 hC.2.1 hd ht (fun q => kt ((zo_inj h2 zr_0).mp q) G p l e s m args below meth c H locs la Q hC hH hL (ztail hst) hlo hQ) (fun q => kf (fun w => q ((zo_inj h2 zr_0).mpr w)) G p l e s m args below meth c H locs la Q hC hH hL (ztail hst) hlo hQ)
theorem zA_if_ne {a : Int} {off : Int} {tgt : Nat} (hd : decode cc pc = .ok (.ifCond .ne off, 3)) (ht : (pc : Int) + off = (tgt : Int)) (kt : a ≠ 0 → zA own cc nL R X T cs μ tgt ls st P) (kf : a = 0 → zA own cc nL R X T cs μ (pc + 3) ls st P) : zA own cc nL R X T cs μ pc ls (zI a :: st) P := by
  intro G p l e s m args below meth c H locs la Q hC hH hL hst hlo hQ
  have h2 : zr a := zhead hst
  exact lv_if_ne hC.1 hC.2.1 hd ht (fun q => kt ((not_congr (zo_inj h2 zr_0)).mp q) G p l e s m args below meth c H locs la Q hC hH hL (ztail hst) hlo hQ) (fun q => kf ((zo_inj h2 zr_0).mp q) G p l e s m args below meth c H locs la Q hC hH hL (ztail hst) hlo hQ)
theorem zA_if_lt {a : Int} {off : Int} {tgt : Nat} (hd : decode cc pc = .ok (.ifCond .lt off, 3)) (ht : (pc : Int) + off = (tgt : Int)) (kt : a < 0 → zA own cc nL R X T cs μ tgt ls st P) (kf : ¬ (a < 0) → zA own cc nL R X T cs μ (pc + 3) ls st P) : zA own cc nL R X T cs μ pc ls (zI a :: st) P := by
  intro G p l e s m args below meth c H locs la Q hC hH hL hst hlo hQ
  have h2 : zr a := zhead hst
  exact lv_if_lt hC.1 hC.2.1 hd ht (fun q => kt ((zo_lt h2 zr_0).mp q) G p l e s m args below meth c H locs la Q hC hH hL (ztail hst) hlo hQ) (fun q => kf (fun w => q ((zo_lt h2 zr_0).mpr w)) G p l e s m args below meth c H locs la Q hC hH hL (ztail hst) hlo hQ)
theorem zA_if_ge {a : Int} {off : Int} {tgt : Nat} (hd : decode cc pc = .ok (.ifCond .ge off, 3)) (ht : (pc : Int) + off = (tgt : Int)) (kt : 0 ≤ a → zA own cc nL R X T cs μ tgt ls st P) (kf : ¬ (0 ≤ a) → zA own cc nL R X T cs μ (pc + 3) ls st P) : zA own cc nL R X T cs μ pc ls (zI a :: st) P := by
  intro G p l e s m args below meth c H locs la Q hC hH hL hst hlo hQ
  have h2 : zr a := zhead hst
  exact lv_if_ge hC.1 hC.2.1 hd ht (fun q => kt ((zo_le zr_0 h2).mp q) G p l e s m args below meth c H locs la Q hC hH hL (ztail hst) hlo hQ) (fun q => kf (fun w => q ((zo_le zr_0 h2).mpr w)) G p l e s m args below meth c H locs la Q hC hH hL (ztail hst) hlo hQ)
theorem zA_if_gt {a : Int} {off : Int} {tgt : Nat} (hd : decode cc pc = .ok (.ifCond .gt off, 3)) (ht : (pc : Int) + off = (tgt : Int)) (kt : 0 < a → zA own cc nL R X T cs μ tgt ls st P) (kf : ¬ (0 < a) → zA own cc nL R X T cs μ (pc + 3) ls st P) : zA own cc nL R X T cs μ pc ls (zI a :: st) P := by
  intro G p l e s m args below meth c H locs la Q hC hH hL hst hlo hQ
  have h2 : zr a := zhead hst
  exact lv_if_gt hC.1 hC.2.1 hd ht (fun q => kt ((zo_lt zr_0 h2).mp q) G p l e s m args below meth c H locs la Q hC hH hL (ztail hst) hlo hQ) (fun q => kf (fun w => q ((zo_lt zr_0 h2).mpr w)) G p l e s m args below meth c H locs la Q hC hH hL (ztail hst) hlo hQ)
theorem zA_if_le {a : Int} {off : Int} {tgt : Nat} (hd : decode cc pc = .ok (.ifCond .le off, 3)) (ht : (pc : Int) + off = (tgt : Int)) (kt : a ≤ 0 → zA own cc nL R X T cs μ tgt ls st P) (kf : ¬ (a ≤ 0) → zA own cc nL R X T cs μ (pc + 3) ls st P) : zA own cc nL R X T cs μ pc ls (zI a :: st) P := by
  intro G p l e s m args below meth c H locs la Q hC hH hL hst hlo hQ
  have h2 : zr a := zhead hst
  exact lv_if_le hC.1 hC.2.1 hd ht (fun q => kt ((zo_le h2 zr_0).mp q) G p l e s m args below meth c H locs la Q hC hH hL (ztail hst) hlo hQ) (fun q => kf (fun w => q ((zo_le h2 zr_0).mpr w)) G p l e s m args below meth c H locs la Q hC hH hL (ztail hst) hlo hQ)
theorem zA_tout {dflt lo hi : Int} {offs : Array Int} {len : Nat} {a : Int} {tgt : Nat} (hd : decode cc pc = .ok (.tableswitch dflt lo hi offs, len)) (h : a < lo ∨ hi < a) (ht : (pc : Int) + dflt = (tgt : Int)) (kk : zA own cc nL R X T cs μ tgt ls st P) : zA own cc nL R X T cs μ pc ls (zI a :: st) P := by
  intro G p l e s m args below meth c H locs la Q hC hH hL hst hlo hQ
  exact lv_tableOut hC.1 hC.2.1 hd (by rw [zo_toInt (zhead hst)]; exact h) ht (kk G p l e s m args below meth c H locs la Q hC hH hL (ztail hst) hlo hQ)
theorem zA_tin {dflt lo hi : Int} {offs : Array Int} {len : Nat} {a off : Int} {tgt : Nat} (hd : decode cc pc = .ok (.tableswitch dflt lo hi offs, len)) (h1 : ¬ a < lo) (h2 : ¬ hi < a) (ho : offs[(a - lo).toNat]? = some off) (ht : (pc : Int) + off = (tgt : Int)) (kk : zA own cc nL R X T cs μ tgt ls st P) : zA own cc nL R X T cs μ pc ls (zI a :: st) P := by
  intro G p l e s m args below meth c H locs la Q hC hH hL hst hlo hQ
  exact lv_tableIn hC.1 hC.2.1 hd (by rw [zo_toInt (zhead hst)]; exact h1) (by rw [zo_toInt (zhead hst)]; exact h2) (by rw [zo_toInt (zhead hst)]; exact ho) ht (kk G p l e s m args below meth c H locs la Q hC hH hL (ztail hst) hlo hQ)
theorem zA_lsw {dflt : Int} {ps : Array (Int × Int)} {len : Nat} {a off : Int} {tgt : Nat} (hd : decode cc pc = .ok (.lookupswitch dflt ps, len)) (hp : (ps.toList.zip (ps.toList.drop 1)).all (fun (a, next) => a.1 < next.1) = true) (ho : Op.lookupswitch.offset ps.toList dflt a = off) (ht : (pc : Int) + off = (tgt : Int)) (kk : zA own cc nL R X T cs μ tgt ls st P) : zA own cc nL R X T cs μ pc ls (zI a :: st) P := by
  intro G p l e s m args below meth c H locs la Q hC hH hL hst hlo hQ
  exact lv_lookup hC.1 hC.2.1 hd hp (by rw [zo_toInt (zhead hst)]; exact ho) ht (kk G p l e s m args below meth c H locs la Q hC hH hL (ztail hst) hlo hQ)
end ZRules
