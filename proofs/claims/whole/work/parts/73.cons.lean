/-! ===== the constructors ===== -/
def zPt (T1 : zT) (Q : zM → Prop) : zP := fun r T' μ' => T' = T1 ∧ r = none ∧ Q μ'
theorem zMt_of {d mc : Nat} {y : MethodName} {cc : ByteArray} {nL : Nat} {T T1 : zT} {μ : zM} {avs : List zV} {Q : zM → Prop} {ls : List (Option zV)} (own : String) (ho : y.cls = own) (hi : y.name = "<init>") (hy : plainName y.cls = true) (hn : Nat.ble (zent avs).length nL = true) (hls : zpad nL (zent avs) = ls) (body : zA own cc nL (zRm d mc) zN1 T 0 μ 0 ls [] (zPt T1 Q)) : zMet d mc y cc nL none T μ avs (zPt T1 Q) :=
  zMet_of zN1 rfl (fun _ => hi) hy (Nat.le_of_ble_eq_true hn) hls (fun r T' μ' h => h.2.1) (by rw [ho]; exact fun _ => body)
section ZCons
variable {own : String} {cc : ByteArray} {nL : Nat} {R : Room} {X : zX} {T T' : zT} {cs : Nat} {μ : zM} {pc : Nat} {ls : List (Option zV)} {st : List zV} {P : zP}
theorem zA_newW {index ci n L : Nat} (hl : T.length = L) (hL : Nat.blt L 131 = true) (hf : zCN own index ci) (hn : (zfl ci).length = n) (hn2 : Nat.ble n 1000 = true) (hR1 : cs + 1 ≤ R.cells) (hR2 : 1000 * cs + n ≤ R.slots) (hd : decode cc pc = .ok (.new index, 3)) (he : T ++ [(ci, n, List.replicate n none)] = T') (kk : zA own cc nL R X T' (cs + 1) μ (pc + 3) ls (zR L :: st) P) : zA own cc nL R X T cs μ pc ls st P := by
  subst hl
  subst he
  exact zA_new (Nat.le_of_ble_eq_true hL) hf hn (Nat.le_of_ble_eq_true hn2) hR1 hR2 hd kk
theorem zA_newIW {n : Int} {L N : Nat} (hl : T.length = L) (hL : Nat.blt L 131 = true) (hN : n = N) (hn2 : Nat.ble N 1000 = true) (hR1 : cs + 1 ≤ R.cells) (hR2 : 1000 * cs + N ≤ R.slots) (hd : decode cc pc = .ok (.newarray .int, 2)) (he : T ++ [(10, N, [])] = T') (kk : zA own cc nL R X T' (cs + 1) μ (pc + 2) ls (zR L :: st) P) : zA own cc nL R X T cs μ pc ls (zI n :: st) P := by
  subst hl
  subst he
  subst hN
  have := Nat.le_of_ble_eq_true hn2
  exact zA_newI (Nat.le_of_ble_eq_true hL) kar_i (by omega) (by omega) hR1 hR2 hd kk
theorem zA_newZW {n : Int} {L N : Nat} (hl : T.length = L) (hL : Nat.blt L 131 = true) (hN : n = N) (hn2 : Nat.ble N 1000 = true) (hR1 : cs + 1 ≤ R.cells) (hR2 : 1000 * cs + N ≤ R.slots) (hd : decode cc pc = .ok (.newarray .boolean, 2)) (he : T ++ [(11, N, [])] = T') (kk : zA own cc nL R X T' (cs + 1) μ (pc + 2) ls (zR L :: st) P) : zA own cc nL R X T cs μ pc ls (zI n :: st) P := by
  subst hl
  subst he
  subst hN
  have := Nat.le_of_ble_eq_true hn2
  exact zA_newZ (Nat.le_of_ble_eq_true hL) kar_z (by omega) (by omega) hR1 hR2 hd kk
theorem zA_anewSW {index : Nat} {n : Int} {L N : Nat} (hl : T.length = L) (hL : Nat.blt L 131 = true) (hc : Cond.classLink own index RX7 ∈ zws) (hN : n = N) (hn2 : Nat.ble N 1000 = true) (hR1 : cs + 1 ≤ R.cells) (hR2 : 1000 * cs + N ≤ R.slots) (hd : decode cc pc = .ok (.anewarray index, 3)) (he : T ++ [(12, N, List.replicate N none)] = T') (kk : zA own cc nL R X T' (cs + 1) μ (pc + 3) ls (zR L :: st) P) : zA own cc nL R X T cs μ pc ls (zI n :: st) P := by
  subst hl
  subst he
  subst hN
  have := Nat.le_of_ble_eq_true hn2
  exact zA_anewS (Nat.le_of_ble_eq_true hL) hc kov_s (by omega) (by omega) hR1 hR2 hd kk
theorem zA_multiW {index : Nat} {n k : Int} {L N K : Nat} (hl : T.length = L) (hL : Nat.blt L 131 = true) (hc : Cond.classLink own index "[[I" ∈ zws) (hN : n = N) (hK : k = K) (hn2 : Nat.ble N 900 = true) (hk2 : Nat.ble K 900 = true) (hR1 : cs + (1 + N) ≤ R.cells) (hR2 : 1000 * cs + 1000 * (1 + N) ≤ R.slots) (hd : decode cc pc = .ok (.multianewarray index 2, 4)) (he : T ++ ((13, N, (List.range N).map (fun i => some (L + 1 + i))) :: List.replicate N (10, K, [])) = T') (kk : zA own cc nL R X T' (cs + (1 + N)) μ (pc + 4) ls (zR L :: st) P) : zA own cc nL R X T cs μ pc ls (zI k :: zI n :: st) P := by
  subst hl
  subst he
  subst hN
  subst hK
  have := Nat.le_of_ble_eq_true hn2
  have := Nat.le_of_ble_eq_true hk2
  exact zA_multi (Nat.le_of_ble_eq_true hL) hc kov_i kar_i (by omega) (by omega) (by omega) (by omega) hR1 hR2 hd kk
theorem zA_putRW {index ci j k k' n : Nat} {rs : List (Option Nat)} (hX : X.1 = true) (hf : zFF own index ci j) (hk : znth T k = some (ci, n, rs)) (hl : Nat.blt j rs.length = true) (hd : decode cc pc = .ok (.putfield index, 3)) (he : T.set k (ci, n, rs.set j (some k')) = T') (kk : zA own cc nL R X T' cs μ (pc + 3) ls st P) : zA own cc nL R X T cs μ pc ls (zR k' :: zR k :: st) P := by
  subst he
  exact zA_putR hX hf hk (Nat.le_of_ble_eq_true hl) hd kk
theorem zA_aastW {k k' n nS I : Nat} {i : Int} {rs rS : List (Option Nat)} (hI : i = I) (hk : znth T k = some (12, n, rs)) (hk' : znth T k' = some (7, nS, rS)) (h1 : I < n) (hl : I < rs.length) (hd : decode cc pc = .ok (.aastore, 1)) (he : T.set k (12, n, rs.set I (some k')) = T') (kk : zA own cc nL R X T' cs μ (pc + 1) ls st P) : zA own cc nL R X T cs μ pc ls (zR k' :: zI i :: zR k :: st) P := by
  subst he
  subst hI
  exact zA_aast hk hk' (by omega) (by omega) hl hd kk
theorem zA_init {d mc n index k : Nat} {y : MethodName} {cy : ByteArray} {ny : Nat} {as : List zV} {st0 : List zV} {Q : zM → Prop} (hc : zCI own index y cy ny n) (hM : zMet d mc y cy ny none T μ (zR k :: as) (zPt T' Q)) (hs : st0 = as.reverse ++ zR k :: st) (hn : as.length = n) (hw : Nat.ble (zcat st) 8 = true) (hd : decode cc pc = .ok (.invokespecial index, 3)) (hR : zFit R cs d mc ny) (kk : ∀ μ', Q μ' → zA own cc nL R X T' (cs + mc) μ' (pc + 3) ls st P) : zA own cc nL R X T cs μ pc ls st0 P :=
  zA_callI hc hM hs hn hw hd hR (fun r T1 μ1 h => by obtain ⟨rfl, rfl, h⟩ := h; exact kk μ1 h)
theorem zA_initN {d mc n index k : Nat} {y : MethodName} {cy : ByteArray} {ny : Nat} {as : List zV} {st0 : List zV} {Q : zM → Prop} (hc : zCIN own index y cy ny n) (hM : zMet d mc y cy ny none T μ (zR k :: as) (zPt T' Q)) (hs : st0 = as.reverse ++ zR k :: st) (hn : as.length = n) (hw : Nat.ble (zcat st) 8 = true) (hd : decode cc pc = .ok (.invokespecial index, 3)) (hR : zFit R cs d mc ny) (kk : ∀ μ', Q μ' → zA own cc nL R X T' (cs + mc) μ' (pc + 3) ls st P) : zA own cc nL R X T cs μ pc ls st0 P :=
  zA_callIN hc hM hs hn hw hd hR (fun r T1 μ1 h => by obtain ⟨rfl, rfl, h⟩ := h; exact kk μ1 h)
theorem zA_tret {T1 : zT} {Q : zM → Prop} (hd : decode cc pc = .ok (.return_, 1)) (hc : cs ≤ R.cells) (hs : 1000 * cs ≤ R.slots) (he : T = T1) (hq : Q μ) : zA own cc nL R X T cs μ pc ls [] (zPt T1 Q) := zA_vret hd hc hs ⟨he, rfl, hq⟩
end ZCons
theorem zfitC {E D cs mc0 mc nL : Nat} (h : D + 1 ≤ E) (hn : Nat.ble nL 81 = true) (hc : Nat.ble (cs + mc) mc0 = true) : zFit (zRm E mc0) cs D mc nL := by
  have := Nat.le_of_ble_eq_true hn
  have h3 := Nat.le_of_ble_eq_true hc
  refine ⟨h, ?_, h3, ?_⟩
  · show 8 + (nL + 11) + 100 * D ≤ 100 * E
    omega
  · show 1000 * cs + 1000 * mc ≤ 1000 * mc0
    omega
theorem znth_app {α : Type} {l l' : List α} {i : Nat} {a : α} (h : znth l i = some a) : znth (l ++ l') i = some a := by
  rw [znth_get] at *
  obtain ⟨h1, -⟩ := List.getElem?_eq_some_iff.mp h
  rw [List.getElem?_append_left h1]
  exact h
theorem i_X7 (d : Nat) (μ : zM) (T T' : zT) (k L : Nat) (hl : T.length = L) (hL : Nat.blt L 131 = true) (hk : znth T k = some (7, 4, [none, none, none, none])) (he : (T ++ [(10, 30, [])]).set k (7, 4, [some L, none, none, none]) = T') : zMet (d + 1) 1 yX7_init cX7_init 1 none T μ [zR k] (zPt T' (fun ν => μ = ν)) := by
  refine zMt_of RX7 rfl rfl (by decide) rfl (ls := [some (zR k)]) rfl ?_
  refine zA_aload_n dX7_init_0 rfl ?_
  refine zA_obj kX7_3 kob_im kob_c dX7_init_1 (by show 1 ≤ d + 1; omega) (by show _ ≤ 100 * (d + 1); simp only [zcat]; omega) ?_
  refine zA_aload_n dX7_init_4 rfl ?_
  refine zA_bipush dX7_init_5 rfl ?_
  refine zA_newIW (L := L) (N := 30) (T' := T ++ [(10, 30, [])]) hl hL rfl rfl (Nat.le_of_ble_eq_true rfl) (Nat.le_of_ble_eq_true rfl) dX7_init_7 rfl ?_
  refine zA_putRW (rs := [none, none, none, none]) (T' := T') rfl wX7_9 (znth_app hk) rfl dX7_init_9 he ?_
  exact zA_tret dX7_init_12 (Nat.le_of_ble_eq_true rfl) (Nat.le_of_ble_eq_true rfl) rfl rfl
theorem i_X2_1 (d : Nat) (μ : zM) : zMet (d + 1) 6 yX2_init cX2_init 1 none (((TF.take 2).set 0 (8, 16, [none, none, none, none, none, none, none, none, none, none, none, none, none, none, none, none])).set 1 (2, 12, [none, none, none, none, none, none, none, none, none, none, none, none])) μ [zR 1] (zPt ((TF.take 8).set 0 (8, 16, [none, none, none, none, none, none, none, none, none, none, none, none, none, none, none, none])) (fun ν => μ = ν)) := by
  refine zMt_of RX2 rfl rfl (by decide) rfl (ls := [some (zR 1)]) rfl ?_
  refine zA_aload_n dX2_init_0 rfl ?_
  refine zA_obj kX2_3 kob_im kob_c dX2_init_1 (by show 1 ≤ d + 1; omega) (by show _ ≤ 100 * (d + 1); simp only [zcat]; omega) ?_
  refine zA_aload_n dX2_init_4 rfl ?_
  refine zA_bipush dX2_init_5 rfl ?_
  refine zA_newIW (L := 2) (N := 30) (T' := (((TF.take 3).set 0 (8, 16, [none, none, none, none, none, none, none, none, none, none, none, none, none, none, none, none])).set 1 (2, 12, [none, none, none, none, none, none, none, none, none, none, none, none]))) (by decide +kernel) rfl rfl rfl (Nat.le_of_ble_eq_true rfl) (Nat.le_of_ble_eq_true rfl) dX2_init_7 (by decide +kernel) ?_
  refine zA_putRW (n := 12) (rs := [none, none, none, none, none, none, none, none, none, none, none, none]) (T' := (((TF.take 3).set 0 (8, 16, [none, none, none, none, none, none, none, none, none, none, none, none, none, none, none, none])).set 1 (2, 12, [some 2, none, none, none, none, none, none, none, none, none, none, none]))) rfl wX2_9 (by decide +kernel) rfl dX2_init_9 (by decide +kernel) ?_
  refine zA_aload_n dX2_init_12 rfl ?_
  refine zA_bipush dX2_init_13 rfl ?_
  refine zA_newIW (L := 3) (N := 10) (T' := (((TF.take 4).set 0 (8, 16, [none, none, none, none, none, none, none, none, none, none, none, none, none, none, none, none])).set 1 (2, 12, [some 2, none, none, none, none, none, none, none, none, none, none, none]))) (by decide +kernel) rfl rfl rfl (Nat.le_of_ble_eq_true rfl) (Nat.le_of_ble_eq_true rfl) dX2_init_15 (by decide +kernel) ?_
  refine zA_putRW (n := 12) (rs := [some 2, none, none, none, none, none, none, none, none, none, none, none]) (T' := (((TF.take 4).set 0 (8, 16, [none, none, none, none, none, none, none, none, none, none, none, none, none, none, none, none])).set 1 (2, 12, [some 2, some 3, none, none, none, none, none, none, none, none, none, none]))) rfl wX2_15 (by decide +kernel) rfl dX2_init_17 (by decide +kernel) ?_
  refine zA_aload_n dX2_init_20 rfl ?_
  refine zA_bipush dX2_init_21 rfl ?_
  refine zA_newIW (L := 4) (N := 10) (T' := (((TF.take 5).set 0 (8, 16, [none, none, none, none, none, none, none, none, none, none, none, none, none, none, none, none])).set 1 (2, 12, [some 2, some 3, none, none, none, none, none, none, none, none, none, none]))) (by decide +kernel) rfl rfl rfl (Nat.le_of_ble_eq_true rfl) (Nat.le_of_ble_eq_true rfl) dX2_init_23 (by decide +kernel) ?_
  refine zA_putRW (n := 12) (rs := [some 2, some 3, none, none, none, none, none, none, none, none, none, none]) (T' := (((TF.take 5).set 0 (8, 16, [none, none, none, none, none, none, none, none, none, none, none, none, none, none, none, none])).set 1 (2, 12, [some 2, some 3, some 4, none, none, none, none, none, none, none, none, none]))) rfl wX2_18 (by decide +kernel) rfl dX2_init_25 (by decide +kernel) ?_
  refine zA_aload_n dX2_init_28 rfl ?_
  refine zA_iconst dX2_init_29 rfl ?_
  refine zA_newIW (L := 5) (N := 5) (T' := (((TF.take 6).set 0 (8, 16, [none, none, none, none, none, none, none, none, none, none, none, none, none, none, none, none])).set 1 (2, 12, [some 2, some 3, some 4, none, none, none, none, none, none, none, none, none]))) (by decide +kernel) rfl rfl rfl (Nat.le_of_ble_eq_true rfl) (Nat.le_of_ble_eq_true rfl) dX2_init_30 (by decide +kernel) ?_
  refine zA_putRW (n := 12) (rs := [some 2, some 3, some 4, none, none, none, none, none, none, none, none, none]) (T' := (((TF.take 6).set 0 (8, 16, [none, none, none, none, none, none, none, none, none, none, none, none, none, none, none, none])).set 1 (2, 12, [some 2, some 3, some 4, some 5, none, none, none, none, none, none, none, none]))) rfl wX2_21 (by decide +kernel) rfl dX2_init_32 (by decide +kernel) ?_
  refine zA_aload_n dX2_init_35 rfl ?_
  refine zA_iconst dX2_init_36 rfl ?_
  refine zA_newIW (L := 6) (N := 5) (T' := (((TF.take 7).set 0 (8, 16, [none, none, none, none, none, none, none, none, none, none, none, none, none, none, none, none])).set 1 (2, 12, [some 2, some 3, some 4, some 5, none, none, none, none, none, none, none, none]))) (by decide +kernel) rfl rfl rfl (Nat.le_of_ble_eq_true rfl) (Nat.le_of_ble_eq_true rfl) dX2_init_37 (by decide +kernel) ?_
  refine zA_putRW (n := 12) (rs := [some 2, some 3, some 4, some 5, none, none, none, none, none, none, none, none]) (T' := (((TF.take 7).set 0 (8, 16, [none, none, none, none, none, none, none, none, none, none, none, none, none, none, none, none])).set 1 (2, 12, [some 2, some 3, some 4, some 5, some 6, none, none, none, none, none, none, none]))) rfl wX2_24 (by decide +kernel) rfl dX2_init_39 (by decide +kernel) ?_
  refine zA_aload_n dX2_init_42 rfl ?_
  refine zA_iconst dX2_init_43 rfl ?_
  refine zA_newIW (L := 7) (N := 5) (T' := (((TF.take 8).set 0 (8, 16, [none, none, none, none, none, none, none, none, none, none, none, none, none, none, none, none])).set 1 (2, 12, [some 2, some 3, some 4, some 5, some 6, none, none, none, none, none, none, none]))) (by decide +kernel) rfl rfl rfl (Nat.le_of_ble_eq_true rfl) (Nat.le_of_ble_eq_true rfl) dX2_init_44 (by decide +kernel) ?_
  refine zA_putRW (n := 12) (rs := [some 2, some 3, some 4, some 5, some 6, none, none, none, none, none, none, none]) (T' := ((TF.take 8).set 0 (8, 16, [none, none, none, none, none, none, none, none, none, none, none, none, none, none, none, none]))) rfl wX2_27 (by decide +kernel) rfl dX2_init_46 (by decide +kernel) ?_
  exact zA_tret dX2_init_49 (Nat.le_of_ble_eq_true rfl) (Nat.le_of_ble_eq_true rfl) rfl rfl
theorem i_X2_9 (d : Nat) (μ : zM) : zMet (d + 1) 6 yX2_init cX2_init 1 none ((((TF.take 10).set 0 (8, 16, [some 1, none, none, none, none, none, none, none, none, none, none, none, none, none, none, none])).set 8 (5, 8, [none, none, none, none, none, none, none, none])).set 9 (2, 12, [none, none, none, none, none, none, none, none, none, none, none, none])) μ [zR 9] (zPt (((TF.take 16).set 0 (8, 16, [some 1, none, none, none, none, none, none, none, none, none, none, none, none, none, none, none])).set 8 (5, 8, [none, none, none, none, none, none, none, none])) (fun ν => μ = ν)) := by
  refine zMt_of RX2 rfl rfl (by decide) rfl (ls := [some (zR 9)]) rfl ?_
  refine zA_aload_n dX2_init_0 rfl ?_
  refine zA_obj kX2_3 kob_im kob_c dX2_init_1 (by show 1 ≤ d + 1; omega) (by show _ ≤ 100 * (d + 1); simp only [zcat]; omega) ?_
  refine zA_aload_n dX2_init_4 rfl ?_
  refine zA_bipush dX2_init_5 rfl ?_
  refine zA_newIW (L := 10) (N := 30) (T' := ((((TF.take 11).set 0 (8, 16, [some 1, none, none, none, none, none, none, none, none, none, none, none, none, none, none, none])).set 8 (5, 8, [none, none, none, none, none, none, none, none])).set 9 (2, 12, [none, none, none, none, none, none, none, none, none, none, none, none]))) (by decide +kernel) rfl rfl rfl (Nat.le_of_ble_eq_true rfl) (Nat.le_of_ble_eq_true rfl) dX2_init_7 (by decide +kernel) ?_
  refine zA_putRW (n := 12) (rs := [none, none, none, none, none, none, none, none, none, none, none, none]) (T' := ((((TF.take 11).set 0 (8, 16, [some 1, none, none, none, none, none, none, none, none, none, none, none, none, none, none, none])).set 8 (5, 8, [none, none, none, none, none, none, none, none])).set 9 (2, 12, [some 10, none, none, none, none, none, none, none, none, none, none, none]))) rfl wX2_9 (by decide +kernel) rfl dX2_init_9 (by decide +kernel) ?_
  refine zA_aload_n dX2_init_12 rfl ?_
  refine zA_bipush dX2_init_13 rfl ?_
  refine zA_newIW (L := 11) (N := 10) (T' := ((((TF.take 12).set 0 (8, 16, [some 1, none, none, none, none, none, none, none, none, none, none, none, none, none, none, none])).set 8 (5, 8, [none, none, none, none, none, none, none, none])).set 9 (2, 12, [some 10, none, none, none, none, none, none, none, none, none, none, none]))) (by decide +kernel) rfl rfl rfl (Nat.le_of_ble_eq_true rfl) (Nat.le_of_ble_eq_true rfl) dX2_init_15 (by decide +kernel) ?_
  refine zA_putRW (n := 12) (rs := [some 10, none, none, none, none, none, none, none, none, none, none, none]) (T' := ((((TF.take 12).set 0 (8, 16, [some 1, none, none, none, none, none, none, none, none, none, none, none, none, none, none, none])).set 8 (5, 8, [none, none, none, none, none, none, none, none])).set 9 (2, 12, [some 10, some 11, none, none, none, none, none, none, none, none, none, none]))) rfl wX2_15 (by decide +kernel) rfl dX2_init_17 (by decide +kernel) ?_
  refine zA_aload_n dX2_init_20 rfl ?_
  refine zA_bipush dX2_init_21 rfl ?_
  refine zA_newIW (L := 12) (N := 10) (T' := ((((TF.take 13).set 0 (8, 16, [some 1, none, none, none, none, none, none, none, none, none, none, none, none, none, none, none])).set 8 (5, 8, [none, none, none, none, none, none, none, none])).set 9 (2, 12, [some 10, some 11, none, none, none, none, none, none, none, none, none, none]))) (by decide +kernel) rfl rfl rfl (Nat.le_of_ble_eq_true rfl) (Nat.le_of_ble_eq_true rfl) dX2_init_23 (by decide +kernel) ?_
  refine zA_putRW (n := 12) (rs := [some 10, some 11, none, none, none, none, none, none, none, none, none, none]) (T' := ((((TF.take 13).set 0 (8, 16, [some 1, none, none, none, none, none, none, none, none, none, none, none, none, none, none, none])).set 8 (5, 8, [none, none, none, none, none, none, none, none])).set 9 (2, 12, [some 10, some 11, some 12, none, none, none, none, none, none, none, none, none]))) rfl wX2_18 (by decide +kernel) rfl dX2_init_25 (by decide +kernel) ?_
  refine zA_aload_n dX2_init_28 rfl ?_
  refine zA_iconst dX2_init_29 rfl ?_
  refine zA_newIW (L := 13) (N := 5) (T' := ((((TF.take 14).set 0 (8, 16, [some 1, none, none, none, none, none, none, none, none, none, none, none, none, none, none, none])).set 8 (5, 8, [none, none, none, none, none, none, none, none])).set 9 (2, 12, [some 10, some 11, some 12, none, none, none, none, none, none, none, none, none]))) (by decide +kernel) rfl rfl rfl (Nat.le_of_ble_eq_true rfl) (Nat.le_of_ble_eq_true rfl) dX2_init_30 (by decide +kernel) ?_
  refine zA_putRW (n := 12) (rs := [some 10, some 11, some 12, none, none, none, none, none, none, none, none, none]) (T' := ((((TF.take 14).set 0 (8, 16, [some 1, none, none, none, none, none, none, none, none, none, none, none, none, none, none, none])).set 8 (5, 8, [none, none, none, none, none, none, none, none])).set 9 (2, 12, [some 10, some 11, some 12, some 13, none, none, none, none, none, none, none, none]))) rfl wX2_21 (by decide +kernel) rfl dX2_init_32 (by decide +kernel) ?_
  refine zA_aload_n dX2_init_35 rfl ?_
  refine zA_iconst dX2_init_36 rfl ?_
  refine zA_newIW (L := 14) (N := 5) (T' := ((((TF.take 15).set 0 (8, 16, [some 1, none, none, none, none, none, none, none, none, none, none, none, none, none, none, none])).set 8 (5, 8, [none, none, none, none, none, none, none, none])).set 9 (2, 12, [some 10, some 11, some 12, some 13, none, none, none, none, none, none, none, none]))) (by decide +kernel) rfl rfl rfl (Nat.le_of_ble_eq_true rfl) (Nat.le_of_ble_eq_true rfl) dX2_init_37 (by decide +kernel) ?_
  refine zA_putRW (n := 12) (rs := [some 10, some 11, some 12, some 13, none, none, none, none, none, none, none, none]) (T' := ((((TF.take 15).set 0 (8, 16, [some 1, none, none, none, none, none, none, none, none, none, none, none, none, none, none, none])).set 8 (5, 8, [none, none, none, none, none, none, none, none])).set 9 (2, 12, [some 10, some 11, some 12, some 13, some 14, none, none, none, none, none, none, none]))) rfl wX2_24 (by decide +kernel) rfl dX2_init_39 (by decide +kernel) ?_
  refine zA_aload_n dX2_init_42 rfl ?_
  refine zA_iconst dX2_init_43 rfl ?_
  refine zA_newIW (L := 15) (N := 5) (T' := ((((TF.take 16).set 0 (8, 16, [some 1, none, none, none, none, none, none, none, none, none, none, none, none, none, none, none])).set 8 (5, 8, [none, none, none, none, none, none, none, none])).set 9 (2, 12, [some 10, some 11, some 12, some 13, some 14, none, none, none, none, none, none, none]))) (by decide +kernel) rfl rfl rfl (Nat.le_of_ble_eq_true rfl) (Nat.le_of_ble_eq_true rfl) dX2_init_44 (by decide +kernel) ?_
  refine zA_putRW (n := 12) (rs := [some 10, some 11, some 12, some 13, some 14, none, none, none, none, none, none, none]) (T' := (((TF.take 16).set 0 (8, 16, [some 1, none, none, none, none, none, none, none, none, none, none, none, none, none, none, none])).set 8 (5, 8, [none, none, none, none, none, none, none, none]))) rfl wX2_27 (by decide +kernel) rfl dX2_init_46 (by decide +kernel) ?_
  exact zA_tret dX2_init_49 (Nat.le_of_ble_eq_true rfl) (Nat.le_of_ble_eq_true rfl) rfl rfl
theorem i_X5 (d : Nat) (μ : zM) : zMet (d + 2) 8 yX5_init cX5_init 1 none (((TF.take 9).set 0 (8, 16, [some 1, none, none, none, none, none, none, none, none, none, none, none, none, none, none, none])).set 8 (5, 8, [none, none, none, none, none, none, none, none])) μ [zR 8] (zPt ((TF.take 17).set 0 (8, 16, [some 1, none, none, none, none, none, none, none, none, none, none, none, none, none, none, none])) (fun ν => (zup μ 8 4 (-1)) = ν)) := by
  refine zMt_of RX5 rfl rfl (by decide) rfl (ls := [some (zR 8)]) rfl ?_
  refine zA_aload_n dX5_init_0 rfl ?_
  refine zA_obj kX5_3 kob_im kob_c dX5_init_1 (by show 1 ≤ d + 2; omega) (by show _ ≤ 100 * (d + 2); simp only [zcat]; omega) ?_
  refine zA_aload_n dX5_init_4 rfl ?_
  refine zA_newW (L := 9) (T' := ((((TF.take 10).set 0 (8, 16, [some 1, none, none, none, none, none, none, none, none, none, none, none, none, none, none, none])).set 8 (5, 8, [none, none, none, none, none, none, none, none])).set 9 (2, 12, [none, none, none, none, none, none, none, none, none, none, none, none]))) (by decide +kernel) rfl nX5_9 rfl rfl (Nat.le_of_ble_eq_true rfl) (Nat.le_of_ble_eq_true rfl) dX5_init_5 (by decide +kernel) ?_
  refine zA_dup dX5_init_8 rfl ?_
  refine zA_initN (st := [zR 9, zR 8]) (as := []) (T' := (((TF.take 16).set 0 (8, 16, [some 1, none, none, none, none, none, none, none, none, none, none, none, none, none, none, none])).set 8 (5, 8, [none, none, none, none, none, none, none, none]))) kX5_11 (i_X2_9 d μ) rfl rfl rfl dX5_init_9 (zfitC (by omega) rfl rfl) (fun μ1 q1 => ?_)
  subst q1
  refine zA_putRW (n := 8) (rs := [none, none, none, none, none, none, none, none]) (T' := (((TF.take 16).set 0 (8, 16, [some 1, none, none, none, none, none, none, none, none, none, none, none, none, none, none, none])).set 8 (5, 8, [some 9, none, none, none, none, none, none, none]))) rfl wX5_12 (by decide +kernel) rfl dX5_init_12 (by decide +kernel) ?_
  refine zA_aload_n dX5_init_15 rfl ?_
  refine zA_sipush dX5_init_16 rfl ?_
  refine zA_newIW (L := 16) (N := 240) (T' := (((TF.take 17).set 0 (8, 16, [some 1, none, none, none, none, none, none, none, none, none, none, none, none, none, none, none])).set 8 (5, 8, [some 9, none, none, none, none, none, none, none]))) (by decide +kernel) rfl rfl rfl (Nat.le_of_ble_eq_true rfl) (Nat.le_of_ble_eq_true rfl) dX5_init_19 (by decide +kernel) ?_
  refine zA_putRW (n := 8) (rs := [some 9, none, none, none, none, none, none, none]) (T' := ((TF.take 17).set 0 (8, 16, [some 1, none, none, none, none, none, none, none, none, none, none, none, none, none, none, none]))) rfl wX5_18 (by decide +kernel) rfl dX5_init_21 (by decide +kernel) ?_
  refine zA_aload_n dX5_init_24 rfl ?_
  refine zA_iconst dX5_init_25 rfl ?_
  refine zA_putI (n := 8) (rs := [some 9, some 16, none, none, none, none, none, none]) wX5_22 (by decide +kernel) dX5_init_26 ?_
  exact zA_tret dX5_init_29 (Nat.le_of_ble_eq_true rfl) (Nat.le_of_ble_eq_true rfl) rfl rfl
theorem i_X6 (d : Nat) (μ : zM) : zMet (d + 1) 7 yX6_init cX6_init 1 none (((TF.take 18).set 0 (8, 16, [some 1, some 8, none, none, none, none, none, none, none, none, none, none, none, none, none, none])).set 17 (6, 11, [none, none, none, none, none, none, none, none, none, none, none])) μ [zR 17] (zPt ((TF.take 25).set 0 (8, 16, [some 1, some 8, none, none, none, none, none, none, none, none, none, none, none, none, none, none])) (fun ν => μ = ν)) := by
  refine zMt_of RX6 rfl rfl (by decide) rfl (ls := [some (zR 17)]) rfl ?_
  refine zA_aload_n dX6_init_0 rfl ?_
  refine zA_obj kX6_3 kob_im kob_c dX6_init_1 (by show 1 ≤ d + 1; omega) (by show _ ≤ 100 * (d + 1); simp only [zcat]; omega) ?_
  refine zA_aload_n dX6_init_4 rfl ?_
  refine zA_iconst dX6_init_5 rfl ?_
  refine zA_bipush dX6_init_6 rfl ?_
  refine zA_multiW (L := 18) (N := 4) (K := 30) (T' := (((TF.take 23).set 0 (8, 16, [some 1, some 8, none, none, none, none, none, none, none, none, none, none, none, none, none, none])).set 17 (6, 11, [none, none, none, none, none, none, none, none, none, none, none]))) (by decide +kernel) rfl nX6_9 rfl rfl rfl rfl (Nat.le_of_ble_eq_true rfl) (Nat.le_of_ble_eq_true rfl) dX6_init_8 (by decide +kernel) ?_
  refine zA_putRW (n := 11) (rs := [none, none, none, none, none, none, none, none, none, none, none]) (T' := (((TF.take 23).set 0 (8, 16, [some 1, some 8, none, none, none, none, none, none, none, none, none, none, none, none, none, none])).set 17 (6, 11, [some 18, none, none, none, none, none, none, none, none, none, none]))) rfl wX6_11 (by decide +kernel) rfl dX6_init_12 (by decide +kernel) ?_
  refine zA_aload_n dX6_init_15 rfl ?_
  refine zA_iconst dX6_init_16 rfl ?_
  refine zA_newIW (L := 23) (N := 3) (T' := (((TF.take 24).set 0 (8, 16, [some 1, some 8, none, none, none, none, none, none, none, none, none, none, none, none, none, none])).set 17 (6, 11, [some 18, none, none, none, none, none, none, none, none, none, none]))) (by decide +kernel) rfl rfl rfl (Nat.le_of_ble_eq_true rfl) (Nat.le_of_ble_eq_true rfl) dX6_init_17 (by decide +kernel) ?_
  refine zA_putRW (n := 11) (rs := [some 18, none, none, none, none, none, none, none, none, none, none]) (T' := (((TF.take 24).set 0 (8, 16, [some 1, some 8, none, none, none, none, none, none, none, none, none, none, none, none, none, none])).set 17 (6, 11, [some 18, some 23, none, none, none, none, none, none, none, none, none]))) rfl wX6_16 (by decide +kernel) rfl dX6_init_19 (by decide +kernel) ?_
  refine zA_aload_n dX6_init_22 rfl ?_
  refine zA_iconst dX6_init_23 rfl ?_
  refine zA_newIW (L := 24) (N := 3) (T' := (((TF.take 25).set 0 (8, 16, [some 1, some 8, none, none, none, none, none, none, none, none, none, none, none, none, none, none])).set 17 (6, 11, [some 18, some 23, none, none, none, none, none, none, none, none, none]))) (by decide +kernel) rfl rfl rfl (Nat.le_of_ble_eq_true rfl) (Nat.le_of_ble_eq_true rfl) dX6_init_24 (by decide +kernel) ?_
  refine zA_putRW (n := 11) (rs := [some 18, some 23, none, none, none, none, none, none, none, none, none]) (T' := ((TF.take 25).set 0 (8, 16, [some 1, some 8, none, none, none, none, none, none, none, none, none, none, none, none, none, none]))) rfl wX6_20 (by decide +kernel) rfl dX6_init_26 (by decide +kernel) ?_
  exact zA_tret dX6_init_29 (Nat.le_of_ble_eq_true rfl) (Nat.le_of_ble_eq_true rfl) rfl rfl
theorem i_X4 (d : Nat) (μ : zM) : zMet (d + 1) 12 yX4_init cX4_init 1 none (((TF.take 26).set 0 (8, 16, [some 1, some 8, some 17, none, none, none, none, none, none, none, none, none, none, none, none, none])).set 25 (4, 6, [none, none, none, none, none, none])) μ [zR 25] (zPt ((TF.take 38).set 0 (8, 16, [some 1, some 8, some 17, none, none, none, none, none, none, none, none, none, none, none, none, none])) (fun ν => μ = ν)) := by
  refine zMt_of RX4 rfl rfl (by decide) rfl (ls := [some (zR 25)]) rfl ?_
  refine zA_aload_n dX4_init_0 rfl ?_
  refine zA_obj kX4_3 kob_im kob_c dX4_init_1 (by show 1 ≤ d + 1; omega) (by show _ ≤ 100 * (d + 1); simp only [zcat]; omega) ?_
  refine zA_aload_n dX4_init_4 rfl ?_
  refine zA_bipush dX4_init_5 rfl ?_
  refine zA_bipush dX4_init_7 rfl ?_
  refine zA_multiW (L := 26) (N := 11) (K := 30) (T' := (((TF.take 38).set 0 (8, 16, [some 1, some 8, some 17, none, none, none, none, none, none, none, none, none, none, none, none, none])).set 25 (4, 6, [none, none, none, none, none, none]))) (by decide +kernel) rfl nX4_9 rfl rfl rfl rfl (Nat.le_of_ble_eq_true rfl) (Nat.le_of_ble_eq_true rfl) dX4_init_9 (by decide +kernel) ?_
  refine zA_putRW (n := 6) (rs := [none, none, none, none, none, none]) (T' := ((TF.take 38).set 0 (8, 16, [some 1, some 8, some 17, none, none, none, none, none, none, none, none, none, none, none, none, none]))) rfl wX4_11 (by decide +kernel) rfl dX4_init_13 (by decide +kernel) ?_
  exact zA_tret dX4_init_16 (Nat.le_of_ble_eq_true rfl) (Nat.le_of_ble_eq_true rfl) rfl rfl
theorem i_X0 (d : Nat) (μ : zM) : zMet (d + 1) 13 yX0_init cX0_init 1 none (((TF.take 39).set 0 (8, 16, [some 1, some 8, some 17, some 25, none, none, none, none, none, none, none, none, none, none, none, none])).set 38 (0, 2, [none, none])) μ [zR 38] (zPt ((TF.take 52).set 0 (8, 16, [some 1, some 8, some 17, some 25, none, none, none, none, none, none, none, none, none, none, none, none])) (fun ν => μ = ν)) := by
  refine zMt_of RX0 rfl rfl (by decide) rfl (ls := [some (zR 38)]) rfl ?_
  refine zA_aload_n dX0_init_0 rfl ?_
  refine zA_obj kX0_3 kob_im kob_c dX0_init_1 (by show 1 ≤ d + 1; omega) (by show _ ≤ 100 * (d + 1); simp only [zcat]; omega) ?_
  refine zA_aload_n dX0_init_4 rfl ?_
  refine zA_bipush dX0_init_5 rfl ?_
  refine zA_bipush dX0_init_7 rfl ?_
  refine zA_multiW (L := 39) (N := 11) (K := 30) (T' := (((TF.take 51).set 0 (8, 16, [some 1, some 8, some 17, some 25, none, none, none, none, none, none, none, none, none, none, none, none])).set 38 (0, 2, [none, none]))) (by decide +kernel) rfl nX0_9 rfl rfl rfl rfl (Nat.le_of_ble_eq_true rfl) (Nat.le_of_ble_eq_true rfl) dX0_init_9 (by decide +kernel) ?_
  refine zA_putRW (n := 2) (rs := [none, none]) (T' := (((TF.take 51).set 0 (8, 16, [some 1, some 8, some 17, some 25, none, none, none, none, none, none, none, none, none, none, none, none])).set 38 (0, 2, [some 39, none]))) rfl wX0_11 (by decide +kernel) rfl dX0_init_13 (by decide +kernel) ?_
  refine zA_aload_n dX0_init_16 rfl ?_
  refine zA_bipush dX0_init_17 rfl ?_
  refine zA_newIW (L := 51) (N := 61) (T' := (((TF.take 52).set 0 (8, 16, [some 1, some 8, some 17, some 25, none, none, none, none, none, none, none, none, none, none, none, none])).set 38 (0, 2, [some 39, none]))) (by decide +kernel) rfl rfl rfl (Nat.le_of_ble_eq_true rfl) (Nat.le_of_ble_eq_true rfl) dX0_init_19 (by decide +kernel) ?_
  refine zA_putRW (n := 2) (rs := [some 39, none]) (T' := ((TF.take 52).set 0 (8, 16, [some 1, some 8, some 17, some 25, none, none, none, none, none, none, none, none, none, none, none, none]))) rfl wX0_16 (by decide +kernel) rfl dX0_init_21 (by decide +kernel) ?_
  exact zA_tret dX0_init_24 (Nat.le_of_ble_eq_true rfl) (Nat.le_of_ble_eq_true rfl) rfl rfl
theorem i_X1 (d : Nat) (μ : zM) : zMet (d + 2) 41 yX1_init cX1_init 2 none (((TF.take 55).set 0 (8, 16, [some 1, some 8, some 17, some 25, some 38, some 52, none, none, none, none, none, none, none, none, none, none])).set 54 (1, 3, [none, none, none])) μ [zR 54] (zPt ((TF.take 96).set 0 (8, 16, [some 1, some 8, some 17, some 25, some 38, some 52, none, none, none, none, none, none, none, none, none, none])) (fun ν => μ = ν)) := by
  refine zMt_of RX1 rfl rfl (by decide) rfl (ls := [some (zR 54), none]) rfl ?_
  refine zA_aload_n dX1_init_0 rfl ?_
  refine zA_obj kX1_3 kob_im kob_c dX1_init_1 (by show 1 ≤ d + 2; omega) (by show _ ≤ 100 * (d + 2); simp only [zcat]; omega) ?_
  refine zA_aload_n dX1_init_4 rfl ?_
  refine zA_bipush dX1_init_5 rfl ?_
  refine zA_anewSW (L := 55) (N := 20) (T' := ((((TF.take 56).set 0 (8, 16, [some 1, some 8, some 17, some 25, some 38, some 52, none, none, none, none, none, none, none, none, none, none])).set 54 (1, 3, [none, none, none])).set 55 (12, 20, [none, none, none, none, none, none, none, none, none, none, none, none, none, none, none, none, none, none, none, none]))) (by decide +kernel) rfl lX1_9 rfl rfl (Nat.le_of_ble_eq_true rfl) (Nat.le_of_ble_eq_true rfl) dX1_init_7 (by decide +kernel) ?_
  refine zA_putRW (n := 3) (rs := [none, none, none]) (T' := (((TF.take 56).set 0 (8, 16, [some 1, some 8, some 17, some 25, some 38, some 52, none, none, none, none, none, none, none, none, none, none])).set 55 (12, 20, [none, none, none, none, none, none, none, none, none, none, none, none, none, none, none, none, none, none, none, none]))) rfl wX1_11 (by decide +kernel) rfl dX1_init_10 (by decide +kernel) ?_
  refine zA_iconst dX1_init_13 rfl ?_
  refine zA_istore_n (ls' := [some (zR 54), some (zI 0)]) dX1_init_14 rfl rfl ?_
  refine zA_iload_n dX1_init_15 rfl ?_
  refine zA_bipush dX1_init_16 rfl ?_
  refine zA_icmp_ge (tgt := 40) dX1_init_18 rfl (fun h => absurd h (by decide)) (fun _ => ?_)
  refine zA_aload_n dX1_init_21 rfl ?_
  refine zA_getR (n := 3) (rs := [some 55, none, none]) fX1_11 (by decide +kernel) rfl dX1_init_22 ?_
  refine zA_iload_n dX1_init_25 rfl ?_
  refine zA_newW (L := 56) (T' := ((((TF.take 57).set 0 (8, 16, [some 1, some 8, some 17, some 25, some 38, some 52, none, none, none, none, none, none, none, none, none, none])).set 55 (12, 20, [none, none, none, none, none, none, none, none, none, none, none, none, none, none, none, none, none, none, none, none])).set 56 (7, 4, [none, none, none, none]))) (by decide +kernel) rfl nX1_9 rfl rfl (Nat.le_of_ble_eq_true rfl) (Nat.le_of_ble_eq_true rfl) dX1_init_26 (by decide +kernel) ?_
  refine zA_dup dX1_init_29 rfl ?_
  refine zA_initN (st := [zR 56, zI 0, zR 55]) (as := []) (T' := (((TF.take 58).set 0 (8, 16, [some 1, some 8, some 17, some 25, some 38, some 52, none, none, none, none, none, none, none, none, none, none])).set 55 (12, 20, [none, none, none, none, none, none, none, none, none, none, none, none, none, none, none, none, none, none, none, none]))) kX1_17 (i_X7 d μ _ _ 56 57 (by decide +kernel) rfl (by decide +kernel) (by decide +kernel)) rfl rfl rfl dX1_init_30 (zfitC (by omega) rfl rfl) (fun μ1 q1 => ?_)
  subst q1
  refine zA_aastW (I := 0) (n := 20) (nS := 4) (rs := [none, none, none, none, none, none, none, none, none, none, none, none, none, none, none, none, none, none, none, none]) (rS := [some 57, none, none, none]) (T' := (((TF.take 58).set 0 (8, 16, [some 1, some 8, some 17, some 25, some 38, some 52, none, none, none, none, none, none, none, none, none, none])).set 55 (12, 20, [some 56, none, none, none, none, none, none, none, none, none, none, none, none, none, none, none, none, none, none, none]))) rfl (by decide +kernel) (by decide +kernel) (Nat.le_of_ble_eq_true rfl) (Nat.le_of_ble_eq_true rfl) dX1_init_33 (by decide +kernel) ?_
  refine zA_iincB (ls' := [some (zR 54), some (zI 1)]) dX1_init_34 rfl rfl ⟨by decide, by decide⟩ rfl ?_
  refine zA_goto (tgt := 15) dX1_init_37 rfl ?_
  refine zA_iload_n dX1_init_15 rfl ?_
  refine zA_bipush dX1_init_16 rfl ?_
  refine zA_icmp_ge (tgt := 40) dX1_init_18 rfl (fun h => absurd h (by decide)) (fun _ => ?_)
  refine zA_aload_n dX1_init_21 rfl ?_
  refine zA_getR (n := 3) (rs := [some 55, none, none]) fX1_11 (by decide +kernel) rfl dX1_init_22 ?_
  refine zA_iload_n dX1_init_25 rfl ?_
  refine zA_newW (L := 58) (T' := ((((TF.take 59).set 0 (8, 16, [some 1, some 8, some 17, some 25, some 38, some 52, none, none, none, none, none, none, none, none, none, none])).set 55 (12, 20, [some 56, none, none, none, none, none, none, none, none, none, none, none, none, none, none, none, none, none, none, none])).set 58 (7, 4, [none, none, none, none]))) (by decide +kernel) rfl nX1_9 rfl rfl (Nat.le_of_ble_eq_true rfl) (Nat.le_of_ble_eq_true rfl) dX1_init_26 (by decide +kernel) ?_
  refine zA_dup dX1_init_29 rfl ?_
  refine zA_initN (st := [zR 58, zI 1, zR 55]) (as := []) (T' := (((TF.take 60).set 0 (8, 16, [some 1, some 8, some 17, some 25, some 38, some 52, none, none, none, none, none, none, none, none, none, none])).set 55 (12, 20, [some 56, none, none, none, none, none, none, none, none, none, none, none, none, none, none, none, none, none, none, none]))) kX1_17 (i_X7 d μ _ _ 58 59 (by decide +kernel) rfl (by decide +kernel) (by decide +kernel)) rfl rfl rfl dX1_init_30 (zfitC (by omega) rfl rfl) (fun μ2 q2 => ?_)
  subst q2
  refine zA_aastW (I := 1) (n := 20) (nS := 4) (rs := [some 56, none, none, none, none, none, none, none, none, none, none, none, none, none, none, none, none, none, none, none]) (rS := [some 59, none, none, none]) (T' := (((TF.take 60).set 0 (8, 16, [some 1, some 8, some 17, some 25, some 38, some 52, none, none, none, none, none, none, none, none, none, none])).set 55 (12, 20, [some 56, some 58, none, none, none, none, none, none, none, none, none, none, none, none, none, none, none, none, none, none]))) rfl (by decide +kernel) (by decide +kernel) (Nat.le_of_ble_eq_true rfl) (Nat.le_of_ble_eq_true rfl) dX1_init_33 (by decide +kernel) ?_
  refine zA_iincB (ls' := [some (zR 54), some (zI 2)]) dX1_init_34 rfl rfl ⟨by decide, by decide⟩ rfl ?_
  refine zA_goto (tgt := 15) dX1_init_37 rfl ?_
  refine zA_iload_n dX1_init_15 rfl ?_
  refine zA_bipush dX1_init_16 rfl ?_
  refine zA_icmp_ge (tgt := 40) dX1_init_18 rfl (fun h => absurd h (by decide)) (fun _ => ?_)
  refine zA_aload_n dX1_init_21 rfl ?_
  refine zA_getR (n := 3) (rs := [some 55, none, none]) fX1_11 (by decide +kernel) rfl dX1_init_22 ?_
  refine zA_iload_n dX1_init_25 rfl ?_
  refine zA_newW (L := 60) (T' := ((((TF.take 61).set 0 (8, 16, [some 1, some 8, some 17, some 25, some 38, some 52, none, none, none, none, none, none, none, none, none, none])).set 55 (12, 20, [some 56, some 58, none, none, none, none, none, none, none, none, none, none, none, none, none, none, none, none, none, none])).set 60 (7, 4, [none, none, none, none]))) (by decide +kernel) rfl nX1_9 rfl rfl (Nat.le_of_ble_eq_true rfl) (Nat.le_of_ble_eq_true rfl) dX1_init_26 (by decide +kernel) ?_
  refine zA_dup dX1_init_29 rfl ?_
  refine zA_initN (st := [zR 60, zI 2, zR 55]) (as := []) (T' := (((TF.take 62).set 0 (8, 16, [some 1, some 8, some 17, some 25, some 38, some 52, none, none, none, none, none, none, none, none, none, none])).set 55 (12, 20, [some 56, some 58, none, none, none, none, none, none, none, none, none, none, none, none, none, none, none, none, none, none]))) kX1_17 (i_X7 d μ _ _ 60 61 (by decide +kernel) rfl (by decide +kernel) (by decide +kernel)) rfl rfl rfl dX1_init_30 (zfitC (by omega) rfl rfl) (fun μ3 q3 => ?_)
  subst q3
  refine zA_aastW (I := 2) (n := 20) (nS := 4) (rs := [some 56, some 58, none, none, none, none, none, none, none, none, none, none, none, none, none, none, none, none, none, none]) (rS := [some 61, none, none, none]) (T' := (((TF.take 62).set 0 (8, 16, [some 1, some 8, some 17, some 25, some 38, some 52, none, none, none, none, none, none, none, none, none, none])).set 55 (12, 20, [some 56, some 58, some 60, none, none, none, none, none, none, none, none, none, none, none, none, none, none, none, none, none]))) rfl (by decide +kernel) (by decide +kernel) (Nat.le_of_ble_eq_true rfl) (Nat.le_of_ble_eq_true rfl) dX1_init_33 (by decide +kernel) ?_
  refine zA_iincB (ls' := [some (zR 54), some (zI 3)]) dX1_init_34 rfl rfl ⟨by decide, by decide⟩ rfl ?_
  refine zA_goto (tgt := 15) dX1_init_37 rfl ?_
  refine zA_iload_n dX1_init_15 rfl ?_
  refine zA_bipush dX1_init_16 rfl ?_
  refine zA_icmp_ge (tgt := 40) dX1_init_18 rfl (fun h => absurd h (by decide)) (fun _ => ?_)
  refine zA_aload_n dX1_init_21 rfl ?_
  refine zA_getR (n := 3) (rs := [some 55, none, none]) fX1_11 (by decide +kernel) rfl dX1_init_22 ?_
  refine zA_iload_n dX1_init_25 rfl ?_
  refine zA_newW (L := 62) (T' := ((((TF.take 63).set 0 (8, 16, [some 1, some 8, some 17, some 25, some 38, some 52, none, none, none, none, none, none, none, none, none, none])).set 55 (12, 20, [some 56, some 58, some 60, none, none, none, none, none, none, none, none, none, none, none, none, none, none, none, none, none])).set 62 (7, 4, [none, none, none, none]))) (by decide +kernel) rfl nX1_9 rfl rfl (Nat.le_of_ble_eq_true rfl) (Nat.le_of_ble_eq_true rfl) dX1_init_26 (by decide +kernel) ?_
  refine zA_dup dX1_init_29 rfl ?_
  refine zA_initN (st := [zR 62, zI 3, zR 55]) (as := []) (T' := (((TF.take 64).set 0 (8, 16, [some 1, some 8, some 17, some 25, some 38, some 52, none, none, none, none, none, none, none, none, none, none])).set 55 (12, 20, [some 56, some 58, some 60, none, none, none, none, none, none, none, none, none, none, none, none, none, none, none, none, none]))) kX1_17 (i_X7 d μ _ _ 62 63 (by decide +kernel) rfl (by decide +kernel) (by decide +kernel)) rfl rfl rfl dX1_init_30 (zfitC (by omega) rfl rfl) (fun μ4 q4 => ?_)
  subst q4
  refine zA_aastW (I := 3) (n := 20) (nS := 4) (rs := [some 56, some 58, some 60, none, none, none, none, none, none, none, none, none, none, none, none, none, none, none, none, none]) (rS := [some 63, none, none, none]) (T' := (((TF.take 64).set 0 (8, 16, [some 1, some 8, some 17, some 25, some 38, some 52, none, none, none, none, none, none, none, none, none, none])).set 55 (12, 20, [some 56, some 58, some 60, some 62, none, none, none, none, none, none, none, none, none, none, none, none, none, none, none, none]))) rfl (by decide +kernel) (by decide +kernel) (Nat.le_of_ble_eq_true rfl) (Nat.le_of_ble_eq_true rfl) dX1_init_33 (by decide +kernel) ?_
  refine zA_iincB (ls' := [some (zR 54), some (zI 4)]) dX1_init_34 rfl rfl ⟨by decide, by decide⟩ rfl ?_
  refine zA_goto (tgt := 15) dX1_init_37 rfl ?_
  refine zA_iload_n dX1_init_15 rfl ?_
  refine zA_bipush dX1_init_16 rfl ?_
  refine zA_icmp_ge (tgt := 40) dX1_init_18 rfl (fun h => absurd h (by decide)) (fun _ => ?_)
  refine zA_aload_n dX1_init_21 rfl ?_
  refine zA_getR (n := 3) (rs := [some 55, none, none]) fX1_11 (by decide +kernel) rfl dX1_init_22 ?_
  refine zA_iload_n dX1_init_25 rfl ?_
  refine zA_newW (L := 64) (T' := ((((TF.take 65).set 0 (8, 16, [some 1, some 8, some 17, some 25, some 38, some 52, none, none, none, none, none, none, none, none, none, none])).set 55 (12, 20, [some 56, some 58, some 60, some 62, none, none, none, none, none, none, none, none, none, none, none, none, none, none, none, none])).set 64 (7, 4, [none, none, none, none]))) (by decide +kernel) rfl nX1_9 rfl rfl (Nat.le_of_ble_eq_true rfl) (Nat.le_of_ble_eq_true rfl) dX1_init_26 (by decide +kernel) ?_
  refine zA_dup dX1_init_29 rfl ?_
  refine zA_initN (st := [zR 64, zI 4, zR 55]) (as := []) (T' := (((TF.take 66).set 0 (8, 16, [some 1, some 8, some 17, some 25, some 38, some 52, none, none, none, none, none, none, none, none, none, none])).set 55 (12, 20, [some 56, some 58, some 60, some 62, none, none, none, none, none, none, none, none, none, none, none, none, none, none, none, none]))) kX1_17 (i_X7 d μ _ _ 64 65 (by decide +kernel) rfl (by decide +kernel) (by decide +kernel)) rfl rfl rfl dX1_init_30 (zfitC (by omega) rfl rfl) (fun μ5 q5 => ?_)
  subst q5
  refine zA_aastW (I := 4) (n := 20) (nS := 4) (rs := [some 56, some 58, some 60, some 62, none, none, none, none, none, none, none, none, none, none, none, none, none, none, none, none]) (rS := [some 65, none, none, none]) (T' := (((TF.take 66).set 0 (8, 16, [some 1, some 8, some 17, some 25, some 38, some 52, none, none, none, none, none, none, none, none, none, none])).set 55 (12, 20, [some 56, some 58, some 60, some 62, some 64, none, none, none, none, none, none, none, none, none, none, none, none, none, none, none]))) rfl (by decide +kernel) (by decide +kernel) (Nat.le_of_ble_eq_true rfl) (Nat.le_of_ble_eq_true rfl) dX1_init_33 (by decide +kernel) ?_
  refine zA_iincB (ls' := [some (zR 54), some (zI 5)]) dX1_init_34 rfl rfl ⟨by decide, by decide⟩ rfl ?_
  refine zA_goto (tgt := 15) dX1_init_37 rfl ?_
  refine zA_iload_n dX1_init_15 rfl ?_
  refine zA_bipush dX1_init_16 rfl ?_
  refine zA_icmp_ge (tgt := 40) dX1_init_18 rfl (fun h => absurd h (by decide)) (fun _ => ?_)
  refine zA_aload_n dX1_init_21 rfl ?_
  refine zA_getR (n := 3) (rs := [some 55, none, none]) fX1_11 (by decide +kernel) rfl dX1_init_22 ?_
  refine zA_iload_n dX1_init_25 rfl ?_
  refine zA_newW (L := 66) (T' := ((((TF.take 67).set 0 (8, 16, [some 1, some 8, some 17, some 25, some 38, some 52, none, none, none, none, none, none, none, none, none, none])).set 55 (12, 20, [some 56, some 58, some 60, some 62, some 64, none, none, none, none, none, none, none, none, none, none, none, none, none, none, none])).set 66 (7, 4, [none, none, none, none]))) (by decide +kernel) rfl nX1_9 rfl rfl (Nat.le_of_ble_eq_true rfl) (Nat.le_of_ble_eq_true rfl) dX1_init_26 (by decide +kernel) ?_
  refine zA_dup dX1_init_29 rfl ?_
  refine zA_initN (st := [zR 66, zI 5, zR 55]) (as := []) (T' := (((TF.take 68).set 0 (8, 16, [some 1, some 8, some 17, some 25, some 38, some 52, none, none, none, none, none, none, none, none, none, none])).set 55 (12, 20, [some 56, some 58, some 60, some 62, some 64, none, none, none, none, none, none, none, none, none, none, none, none, none, none, none]))) kX1_17 (i_X7 d μ _ _ 66 67 (by decide +kernel) rfl (by decide +kernel) (by decide +kernel)) rfl rfl rfl dX1_init_30 (zfitC (by omega) rfl rfl) (fun μ6 q6 => ?_)
  subst q6
  refine zA_aastW (I := 5) (n := 20) (nS := 4) (rs := [some 56, some 58, some 60, some 62, some 64, none, none, none, none, none, none, none, none, none, none, none, none, none, none, none]) (rS := [some 67, none, none, none]) (T' := (((TF.take 68).set 0 (8, 16, [some 1, some 8, some 17, some 25, some 38, some 52, none, none, none, none, none, none, none, none, none, none])).set 55 (12, 20, [some 56, some 58, some 60, some 62, some 64, some 66, none, none, none, none, none, none, none, none, none, none, none, none, none, none]))) rfl (by decide +kernel) (by decide +kernel) (Nat.le_of_ble_eq_true rfl) (Nat.le_of_ble_eq_true rfl) dX1_init_33 (by decide +kernel) ?_
  refine zA_iincB (ls' := [some (zR 54), some (zI 6)]) dX1_init_34 rfl rfl ⟨by decide, by decide⟩ rfl ?_
  refine zA_goto (tgt := 15) dX1_init_37 rfl ?_
  refine zA_iload_n dX1_init_15 rfl ?_
  refine zA_bipush dX1_init_16 rfl ?_
  refine zA_icmp_ge (tgt := 40) dX1_init_18 rfl (fun h => absurd h (by decide)) (fun _ => ?_)
  refine zA_aload_n dX1_init_21 rfl ?_
  refine zA_getR (n := 3) (rs := [some 55, none, none]) fX1_11 (by decide +kernel) rfl dX1_init_22 ?_
  refine zA_iload_n dX1_init_25 rfl ?_
  refine zA_newW (L := 68) (T' := ((((TF.take 69).set 0 (8, 16, [some 1, some 8, some 17, some 25, some 38, some 52, none, none, none, none, none, none, none, none, none, none])).set 55 (12, 20, [some 56, some 58, some 60, some 62, some 64, some 66, none, none, none, none, none, none, none, none, none, none, none, none, none, none])).set 68 (7, 4, [none, none, none, none]))) (by decide +kernel) rfl nX1_9 rfl rfl (Nat.le_of_ble_eq_true rfl) (Nat.le_of_ble_eq_true rfl) dX1_init_26 (by decide +kernel) ?_
  refine zA_dup dX1_init_29 rfl ?_
  refine zA_initN (st := [zR 68, zI 6, zR 55]) (as := []) (T' := (((TF.take 70).set 0 (8, 16, [some 1, some 8, some 17, some 25, some 38, some 52, none, none, none, none, none, none, none, none, none, none])).set 55 (12, 20, [some 56, some 58, some 60, some 62, some 64, some 66, none, none, none, none, none, none, none, none, none, none, none, none, none, none]))) kX1_17 (i_X7 d μ _ _ 68 69 (by decide +kernel) rfl (by decide +kernel) (by decide +kernel)) rfl rfl rfl dX1_init_30 (zfitC (by omega) rfl rfl) (fun μ7 q7 => ?_)
  subst q7
  refine zA_aastW (I := 6) (n := 20) (nS := 4) (rs := [some 56, some 58, some 60, some 62, some 64, some 66, none, none, none, none, none, none, none, none, none, none, none, none, none, none]) (rS := [some 69, none, none, none]) (T' := (((TF.take 70).set 0 (8, 16, [some 1, some 8, some 17, some 25, some 38, some 52, none, none, none, none, none, none, none, none, none, none])).set 55 (12, 20, [some 56, some 58, some 60, some 62, some 64, some 66, some 68, none, none, none, none, none, none, none, none, none, none, none, none, none]))) rfl (by decide +kernel) (by decide +kernel) (Nat.le_of_ble_eq_true rfl) (Nat.le_of_ble_eq_true rfl) dX1_init_33 (by decide +kernel) ?_
  refine zA_iincB (ls' := [some (zR 54), some (zI 7)]) dX1_init_34 rfl rfl ⟨by decide, by decide⟩ rfl ?_
  refine zA_goto (tgt := 15) dX1_init_37 rfl ?_
  refine zA_iload_n dX1_init_15 rfl ?_
  refine zA_bipush dX1_init_16 rfl ?_
  refine zA_icmp_ge (tgt := 40) dX1_init_18 rfl (fun h => absurd h (by decide)) (fun _ => ?_)
  refine zA_aload_n dX1_init_21 rfl ?_
  refine zA_getR (n := 3) (rs := [some 55, none, none]) fX1_11 (by decide +kernel) rfl dX1_init_22 ?_
  refine zA_iload_n dX1_init_25 rfl ?_
  refine zA_newW (L := 70) (T' := ((((TF.take 71).set 0 (8, 16, [some 1, some 8, some 17, some 25, some 38, some 52, none, none, none, none, none, none, none, none, none, none])).set 55 (12, 20, [some 56, some 58, some 60, some 62, some 64, some 66, some 68, none, none, none, none, none, none, none, none, none, none, none, none, none])).set 70 (7, 4, [none, none, none, none]))) (by decide +kernel) rfl nX1_9 rfl rfl (Nat.le_of_ble_eq_true rfl) (Nat.le_of_ble_eq_true rfl) dX1_init_26 (by decide +kernel) ?_
  refine zA_dup dX1_init_29 rfl ?_
  refine zA_initN (st := [zR 70, zI 7, zR 55]) (as := []) (T' := (((TF.take 72).set 0 (8, 16, [some 1, some 8, some 17, some 25, some 38, some 52, none, none, none, none, none, none, none, none, none, none])).set 55 (12, 20, [some 56, some 58, some 60, some 62, some 64, some 66, some 68, none, none, none, none, none, none, none, none, none, none, none, none, none]))) kX1_17 (i_X7 d μ _ _ 70 71 (by decide +kernel) rfl (by decide +kernel) (by decide +kernel)) rfl rfl rfl dX1_init_30 (zfitC (by omega) rfl rfl) (fun μ8 q8 => ?_)
  subst q8
  refine zA_aastW (I := 7) (n := 20) (nS := 4) (rs := [some 56, some 58, some 60, some 62, some 64, some 66, some 68, none, none, none, none, none, none, none, none, none, none, none, none, none]) (rS := [some 71, none, none, none]) (T' := (((TF.take 72).set 0 (8, 16, [some 1, some 8, some 17, some 25, some 38, some 52, none, none, none, none, none, none, none, none, none, none])).set 55 (12, 20, [some 56, some 58, some 60, some 62, some 64, some 66, some 68, some 70, none, none, none, none, none, none, none, none, none, none, none, none]))) rfl (by decide +kernel) (by decide +kernel) (Nat.le_of_ble_eq_true rfl) (Nat.le_of_ble_eq_true rfl) dX1_init_33 (by decide +kernel) ?_
  refine zA_iincB (ls' := [some (zR 54), some (zI 8)]) dX1_init_34 rfl rfl ⟨by decide, by decide⟩ rfl ?_
  refine zA_goto (tgt := 15) dX1_init_37 rfl ?_
  refine zA_iload_n dX1_init_15 rfl ?_
  refine zA_bipush dX1_init_16 rfl ?_
  refine zA_icmp_ge (tgt := 40) dX1_init_18 rfl (fun h => absurd h (by decide)) (fun _ => ?_)
  refine zA_aload_n dX1_init_21 rfl ?_
  refine zA_getR (n := 3) (rs := [some 55, none, none]) fX1_11 (by decide +kernel) rfl dX1_init_22 ?_
  refine zA_iload_n dX1_init_25 rfl ?_
  refine zA_newW (L := 72) (T' := ((((TF.take 73).set 0 (8, 16, [some 1, some 8, some 17, some 25, some 38, some 52, none, none, none, none, none, none, none, none, none, none])).set 55 (12, 20, [some 56, some 58, some 60, some 62, some 64, some 66, some 68, some 70, none, none, none, none, none, none, none, none, none, none, none, none])).set 72 (7, 4, [none, none, none, none]))) (by decide +kernel) rfl nX1_9 rfl rfl (Nat.le_of_ble_eq_true rfl) (Nat.le_of_ble_eq_true rfl) dX1_init_26 (by decide +kernel) ?_
  refine zA_dup dX1_init_29 rfl ?_
  refine zA_initN (st := [zR 72, zI 8, zR 55]) (as := []) (T' := (((TF.take 74).set 0 (8, 16, [some 1, some 8, some 17, some 25, some 38, some 52, none, none, none, none, none, none, none, none, none, none])).set 55 (12, 20, [some 56, some 58, some 60, some 62, some 64, some 66, some 68, some 70, none, none, none, none, none, none, none, none, none, none, none, none]))) kX1_17 (i_X7 d μ _ _ 72 73 (by decide +kernel) rfl (by decide +kernel) (by decide +kernel)) rfl rfl rfl dX1_init_30 (zfitC (by omega) rfl rfl) (fun μ9 q9 => ?_)
  subst q9
  refine zA_aastW (I := 8) (n := 20) (nS := 4) (rs := [some 56, some 58, some 60, some 62, some 64, some 66, some 68, some 70, none, none, none, none, none, none, none, none, none, none, none, none]) (rS := [some 73, none, none, none]) (T' := (((TF.take 74).set 0 (8, 16, [some 1, some 8, some 17, some 25, some 38, some 52, none, none, none, none, none, none, none, none, none, none])).set 55 (12, 20, [some 56, some 58, some 60, some 62, some 64, some 66, some 68, some 70, some 72, none, none, none, none, none, none, none, none, none, none, none]))) rfl (by decide +kernel) (by decide +kernel) (Nat.le_of_ble_eq_true rfl) (Nat.le_of_ble_eq_true rfl) dX1_init_33 (by decide +kernel) ?_
  refine zA_iincB (ls' := [some (zR 54), some (zI 9)]) dX1_init_34 rfl rfl ⟨by decide, by decide⟩ rfl ?_
  refine zA_goto (tgt := 15) dX1_init_37 rfl ?_
  refine zA_iload_n dX1_init_15 rfl ?_
  refine zA_bipush dX1_init_16 rfl ?_
  refine zA_icmp_ge (tgt := 40) dX1_init_18 rfl (fun h => absurd h (by decide)) (fun _ => ?_)
  refine zA_aload_n dX1_init_21 rfl ?_
  refine zA_getR (n := 3) (rs := [some 55, none, none]) fX1_11 (by decide +kernel) rfl dX1_init_22 ?_
  refine zA_iload_n dX1_init_25 rfl ?_
  refine zA_newW (L := 74) (T' := ((((TF.take 75).set 0 (8, 16, [some 1, some 8, some 17, some 25, some 38, some 52, none, none, none, none, none, none, none, none, none, none])).set 55 (12, 20, [some 56, some 58, some 60, some 62, some 64, some 66, some 68, some 70, some 72, none, none, none, none, none, none, none, none, none, none, none])).set 74 (7, 4, [none, none, none, none]))) (by decide +kernel) rfl nX1_9 rfl rfl (Nat.le_of_ble_eq_true rfl) (Nat.le_of_ble_eq_true rfl) dX1_init_26 (by decide +kernel) ?_
  refine zA_dup dX1_init_29 rfl ?_
  refine zA_initN (st := [zR 74, zI 9, zR 55]) (as := []) (T' := (((TF.take 76).set 0 (8, 16, [some 1, some 8, some 17, some 25, some 38, some 52, none, none, none, none, none, none, none, none, none, none])).set 55 (12, 20, [some 56, some 58, some 60, some 62, some 64, some 66, some 68, some 70, some 72, none, none, none, none, none, none, none, none, none, none, none]))) kX1_17 (i_X7 d μ _ _ 74 75 (by decide +kernel) rfl (by decide +kernel) (by decide +kernel)) rfl rfl rfl dX1_init_30 (zfitC (by omega) rfl rfl) (fun μ10 q10 => ?_)
  subst q10
  refine zA_aastW (I := 9) (n := 20) (nS := 4) (rs := [some 56, some 58, some 60, some 62, some 64, some 66, some 68, some 70, some 72, none, none, none, none, none, none, none, none, none, none, none]) (rS := [some 75, none, none, none]) (T' := (((TF.take 76).set 0 (8, 16, [some 1, some 8, some 17, some 25, some 38, some 52, none, none, none, none, none, none, none, none, none, none])).set 55 (12, 20, [some 56, some 58, some 60, some 62, some 64, some 66, some 68, some 70, some 72, some 74, none, none, none, none, none, none, none, none, none, none]))) rfl (by decide +kernel) (by decide +kernel) (Nat.le_of_ble_eq_true rfl) (Nat.le_of_ble_eq_true rfl) dX1_init_33 (by decide +kernel) ?_
  refine zA_iincB (ls' := [some (zR 54), some (zI 10)]) dX1_init_34 rfl rfl ⟨by decide, by decide⟩ rfl ?_
  refine zA_goto (tgt := 15) dX1_init_37 rfl ?_
  refine zA_iload_n dX1_init_15 rfl ?_
  refine zA_bipush dX1_init_16 rfl ?_
  refine zA_icmp_ge (tgt := 40) dX1_init_18 rfl (fun h => absurd h (by decide)) (fun _ => ?_)
  refine zA_aload_n dX1_init_21 rfl ?_
  refine zA_getR (n := 3) (rs := [some 55, none, none]) fX1_11 (by decide +kernel) rfl dX1_init_22 ?_
  refine zA_iload_n dX1_init_25 rfl ?_
  refine zA_newW (L := 76) (T' := ((((TF.take 77).set 0 (8, 16, [some 1, some 8, some 17, some 25, some 38, some 52, none, none, none, none, none, none, none, none, none, none])).set 55 (12, 20, [some 56, some 58, some 60, some 62, some 64, some 66, some 68, some 70, some 72, some 74, none, none, none, none, none, none, none, none, none, none])).set 76 (7, 4, [none, none, none, none]))) (by decide +kernel) rfl nX1_9 rfl rfl (Nat.le_of_ble_eq_true rfl) (Nat.le_of_ble_eq_true rfl) dX1_init_26 (by decide +kernel) ?_
  refine zA_dup dX1_init_29 rfl ?_
  refine zA_initN (st := [zR 76, zI 10, zR 55]) (as := []) (T' := (((TF.take 78).set 0 (8, 16, [some 1, some 8, some 17, some 25, some 38, some 52, none, none, none, none, none, none, none, none, none, none])).set 55 (12, 20, [some 56, some 58, some 60, some 62, some 64, some 66, some 68, some 70, some 72, some 74, none, none, none, none, none, none, none, none, none, none]))) kX1_17 (i_X7 d μ _ _ 76 77 (by decide +kernel) rfl (by decide +kernel) (by decide +kernel)) rfl rfl rfl dX1_init_30 (zfitC (by omega) rfl rfl) (fun μ11 q11 => ?_)
  subst q11
  refine zA_aastW (I := 10) (n := 20) (nS := 4) (rs := [some 56, some 58, some 60, some 62, some 64, some 66, some 68, some 70, some 72, some 74, none, none, none, none, none, none, none, none, none, none]) (rS := [some 77, none, none, none]) (T' := (((TF.take 78).set 0 (8, 16, [some 1, some 8, some 17, some 25, some 38, some 52, none, none, none, none, none, none, none, none, none, none])).set 55 (12, 20, [some 56, some 58, some 60, some 62, some 64, some 66, some 68, some 70, some 72, some 74, some 76, none, none, none, none, none, none, none, none, none]))) rfl (by decide +kernel) (by decide +kernel) (Nat.le_of_ble_eq_true rfl) (Nat.le_of_ble_eq_true rfl) dX1_init_33 (by decide +kernel) ?_
  refine zA_iincB (ls' := [some (zR 54), some (zI 11)]) dX1_init_34 rfl rfl ⟨by decide, by decide⟩ rfl ?_
  refine zA_goto (tgt := 15) dX1_init_37 rfl ?_
  refine zA_iload_n dX1_init_15 rfl ?_
  refine zA_bipush dX1_init_16 rfl ?_
  refine zA_icmp_ge (tgt := 40) dX1_init_18 rfl (fun h => absurd h (by decide)) (fun _ => ?_)
  refine zA_aload_n dX1_init_21 rfl ?_
  refine zA_getR (n := 3) (rs := [some 55, none, none]) fX1_11 (by decide +kernel) rfl dX1_init_22 ?_
  refine zA_iload_n dX1_init_25 rfl ?_
  refine zA_newW (L := 78) (T' := ((((TF.take 79).set 0 (8, 16, [some 1, some 8, some 17, some 25, some 38, some 52, none, none, none, none, none, none, none, none, none, none])).set 55 (12, 20, [some 56, some 58, some 60, some 62, some 64, some 66, some 68, some 70, some 72, some 74, some 76, none, none, none, none, none, none, none, none, none])).set 78 (7, 4, [none, none, none, none]))) (by decide +kernel) rfl nX1_9 rfl rfl (Nat.le_of_ble_eq_true rfl) (Nat.le_of_ble_eq_true rfl) dX1_init_26 (by decide +kernel) ?_
  refine zA_dup dX1_init_29 rfl ?_
  refine zA_initN (st := [zR 78, zI 11, zR 55]) (as := []) (T' := (((TF.take 80).set 0 (8, 16, [some 1, some 8, some 17, some 25, some 38, some 52, none, none, none, none, none, none, none, none, none, none])).set 55 (12, 20, [some 56, some 58, some 60, some 62, some 64, some 66, some 68, some 70, some 72, some 74, some 76, none, none, none, none, none, none, none, none, none]))) kX1_17 (i_X7 d μ _ _ 78 79 (by decide +kernel) rfl (by decide +kernel) (by decide +kernel)) rfl rfl rfl dX1_init_30 (zfitC (by omega) rfl rfl) (fun μ12 q12 => ?_)
  subst q12
  refine zA_aastW (I := 11) (n := 20) (nS := 4) (rs := [some 56, some 58, some 60, some 62, some 64, some 66, some 68, some 70, some 72, some 74, some 76, none, none, none, none, none, none, none, none, none]) (rS := [some 79, none, none, none]) (T' := (((TF.take 80).set 0 (8, 16, [some 1, some 8, some 17, some 25, some 38, some 52, none, none, none, none, none, none, none, none, none, none])).set 55 (12, 20, [some 56, some 58, some 60, some 62, some 64, some 66, some 68, some 70, some 72, some 74, some 76, some 78, none, none, none, none, none, none, none, none]))) rfl (by decide +kernel) (by decide +kernel) (Nat.le_of_ble_eq_true rfl) (Nat.le_of_ble_eq_true rfl) dX1_init_33 (by decide +kernel) ?_
  refine zA_iincB (ls' := [some (zR 54), some (zI 12)]) dX1_init_34 rfl rfl ⟨by decide, by decide⟩ rfl ?_
  refine zA_goto (tgt := 15) dX1_init_37 rfl ?_
  refine zA_iload_n dX1_init_15 rfl ?_
  refine zA_bipush dX1_init_16 rfl ?_
  refine zA_icmp_ge (tgt := 40) dX1_init_18 rfl (fun h => absurd h (by decide)) (fun _ => ?_)
  refine zA_aload_n dX1_init_21 rfl ?_
  refine zA_getR (n := 3) (rs := [some 55, none, none]) fX1_11 (by decide +kernel) rfl dX1_init_22 ?_
  refine zA_iload_n dX1_init_25 rfl ?_
  refine zA_newW (L := 80) (T' := ((((TF.take 81).set 0 (8, 16, [some 1, some 8, some 17, some 25, some 38, some 52, none, none, none, none, none, none, none, none, none, none])).set 55 (12, 20, [some 56, some 58, some 60, some 62, some 64, some 66, some 68, some 70, some 72, some 74, some 76, some 78, none, none, none, none, none, none, none, none])).set 80 (7, 4, [none, none, none, none]))) (by decide +kernel) rfl nX1_9 rfl rfl (Nat.le_of_ble_eq_true rfl) (Nat.le_of_ble_eq_true rfl) dX1_init_26 (by decide +kernel) ?_
  refine zA_dup dX1_init_29 rfl ?_
  refine zA_initN (st := [zR 80, zI 12, zR 55]) (as := []) (T' := (((TF.take 82).set 0 (8, 16, [some 1, some 8, some 17, some 25, some 38, some 52, none, none, none, none, none, none, none, none, none, none])).set 55 (12, 20, [some 56, some 58, some 60, some 62, some 64, some 66, some 68, some 70, some 72, some 74, some 76, some 78, none, none, none, none, none, none, none, none]))) kX1_17 (i_X7 d μ _ _ 80 81 (by decide +kernel) rfl (by decide +kernel) (by decide +kernel)) rfl rfl rfl dX1_init_30 (zfitC (by omega) rfl rfl) (fun μ13 q13 => ?_)
  subst q13
  refine zA_aastW (I := 12) (n := 20) (nS := 4) (rs := [some 56, some 58, some 60, some 62, some 64, some 66, some 68, some 70, some 72, some 74, some 76, some 78, none, none, none, none, none, none, none, none]) (rS := [some 81, none, none, none]) (T' := (((TF.take 82).set 0 (8, 16, [some 1, some 8, some 17, some 25, some 38, some 52, none, none, none, none, none, none, none, none, none, none])).set 55 (12, 20, [some 56, some 58, some 60, some 62, some 64, some 66, some 68, some 70, some 72, some 74, some 76, some 78, some 80, none, none, none, none, none, none, none]))) rfl (by decide +kernel) (by decide +kernel) (Nat.le_of_ble_eq_true rfl) (Nat.le_of_ble_eq_true rfl) dX1_init_33 (by decide +kernel) ?_
  refine zA_iincB (ls' := [some (zR 54), some (zI 13)]) dX1_init_34 rfl rfl ⟨by decide, by decide⟩ rfl ?_
  refine zA_goto (tgt := 15) dX1_init_37 rfl ?_
  refine zA_iload_n dX1_init_15 rfl ?_
  refine zA_bipush dX1_init_16 rfl ?_
  refine zA_icmp_ge (tgt := 40) dX1_init_18 rfl (fun h => absurd h (by decide)) (fun _ => ?_)
  refine zA_aload_n dX1_init_21 rfl ?_
  refine zA_getR (n := 3) (rs := [some 55, none, none]) fX1_11 (by decide +kernel) rfl dX1_init_22 ?_
  refine zA_iload_n dX1_init_25 rfl ?_
  refine zA_newW (L := 82) (T' := ((((TF.take 83).set 0 (8, 16, [some 1, some 8, some 17, some 25, some 38, some 52, none, none, none, none, none, none, none, none, none, none])).set 55 (12, 20, [some 56, some 58, some 60, some 62, some 64, some 66, some 68, some 70, some 72, some 74, some 76, some 78, some 80, none, none, none, none, none, none, none])).set 82 (7, 4, [none, none, none, none]))) (by decide +kernel) rfl nX1_9 rfl rfl (Nat.le_of_ble_eq_true rfl) (Nat.le_of_ble_eq_true rfl) dX1_init_26 (by decide +kernel) ?_
  refine zA_dup dX1_init_29 rfl ?_
  refine zA_initN (st := [zR 82, zI 13, zR 55]) (as := []) (T' := (((TF.take 84).set 0 (8, 16, [some 1, some 8, some 17, some 25, some 38, some 52, none, none, none, none, none, none, none, none, none, none])).set 55 (12, 20, [some 56, some 58, some 60, some 62, some 64, some 66, some 68, some 70, some 72, some 74, some 76, some 78, some 80, none, none, none, none, none, none, none]))) kX1_17 (i_X7 d μ _ _ 82 83 (by decide +kernel) rfl (by decide +kernel) (by decide +kernel)) rfl rfl rfl dX1_init_30 (zfitC (by omega) rfl rfl) (fun μ14 q14 => ?_)
  subst q14
  refine zA_aastW (I := 13) (n := 20) (nS := 4) (rs := [some 56, some 58, some 60, some 62, some 64, some 66, some 68, some 70, some 72, some 74, some 76, some 78, some 80, none, none, none, none, none, none, none]) (rS := [some 83, none, none, none]) (T' := (((TF.take 84).set 0 (8, 16, [some 1, some 8, some 17, some 25, some 38, some 52, none, none, none, none, none, none, none, none, none, none])).set 55 (12, 20, [some 56, some 58, some 60, some 62, some 64, some 66, some 68, some 70, some 72, some 74, some 76, some 78, some 80, some 82, none, none, none, none, none, none]))) rfl (by decide +kernel) (by decide +kernel) (Nat.le_of_ble_eq_true rfl) (Nat.le_of_ble_eq_true rfl) dX1_init_33 (by decide +kernel) ?_
  refine zA_iincB (ls' := [some (zR 54), some (zI 14)]) dX1_init_34 rfl rfl ⟨by decide, by decide⟩ rfl ?_
  refine zA_goto (tgt := 15) dX1_init_37 rfl ?_
  refine zA_iload_n dX1_init_15 rfl ?_
  refine zA_bipush dX1_init_16 rfl ?_
  refine zA_icmp_ge (tgt := 40) dX1_init_18 rfl (fun h => absurd h (by decide)) (fun _ => ?_)
  refine zA_aload_n dX1_init_21 rfl ?_
  refine zA_getR (n := 3) (rs := [some 55, none, none]) fX1_11 (by decide +kernel) rfl dX1_init_22 ?_
  refine zA_iload_n dX1_init_25 rfl ?_
  refine zA_newW (L := 84) (T' := ((((TF.take 85).set 0 (8, 16, [some 1, some 8, some 17, some 25, some 38, some 52, none, none, none, none, none, none, none, none, none, none])).set 55 (12, 20, [some 56, some 58, some 60, some 62, some 64, some 66, some 68, some 70, some 72, some 74, some 76, some 78, some 80, some 82, none, none, none, none, none, none])).set 84 (7, 4, [none, none, none, none]))) (by decide +kernel) rfl nX1_9 rfl rfl (Nat.le_of_ble_eq_true rfl) (Nat.le_of_ble_eq_true rfl) dX1_init_26 (by decide +kernel) ?_
  refine zA_dup dX1_init_29 rfl ?_
  refine zA_initN (st := [zR 84, zI 14, zR 55]) (as := []) (T' := (((TF.take 86).set 0 (8, 16, [some 1, some 8, some 17, some 25, some 38, some 52, none, none, none, none, none, none, none, none, none, none])).set 55 (12, 20, [some 56, some 58, some 60, some 62, some 64, some 66, some 68, some 70, some 72, some 74, some 76, some 78, some 80, some 82, none, none, none, none, none, none]))) kX1_17 (i_X7 d μ _ _ 84 85 (by decide +kernel) rfl (by decide +kernel) (by decide +kernel)) rfl rfl rfl dX1_init_30 (zfitC (by omega) rfl rfl) (fun μ15 q15 => ?_)
  subst q15
  refine zA_aastW (I := 14) (n := 20) (nS := 4) (rs := [some 56, some 58, some 60, some 62, some 64, some 66, some 68, some 70, some 72, some 74, some 76, some 78, some 80, some 82, none, none, none, none, none, none]) (rS := [some 85, none, none, none]) (T' := (((TF.take 86).set 0 (8, 16, [some 1, some 8, some 17, some 25, some 38, some 52, none, none, none, none, none, none, none, none, none, none])).set 55 (12, 20, [some 56, some 58, some 60, some 62, some 64, some 66, some 68, some 70, some 72, some 74, some 76, some 78, some 80, some 82, some 84, none, none, none, none, none]))) rfl (by decide +kernel) (by decide +kernel) (Nat.le_of_ble_eq_true rfl) (Nat.le_of_ble_eq_true rfl) dX1_init_33 (by decide +kernel) ?_
  refine zA_iincB (ls' := [some (zR 54), some (zI 15)]) dX1_init_34 rfl rfl ⟨by decide, by decide⟩ rfl ?_
  refine zA_goto (tgt := 15) dX1_init_37 rfl ?_
  refine zA_iload_n dX1_init_15 rfl ?_
  refine zA_bipush dX1_init_16 rfl ?_
  refine zA_icmp_ge (tgt := 40) dX1_init_18 rfl (fun h => absurd h (by decide)) (fun _ => ?_)
  refine zA_aload_n dX1_init_21 rfl ?_
  refine zA_getR (n := 3) (rs := [some 55, none, none]) fX1_11 (by decide +kernel) rfl dX1_init_22 ?_
  refine zA_iload_n dX1_init_25 rfl ?_
  refine zA_newW (L := 86) (T' := ((((TF.take 87).set 0 (8, 16, [some 1, some 8, some 17, some 25, some 38, some 52, none, none, none, none, none, none, none, none, none, none])).set 55 (12, 20, [some 56, some 58, some 60, some 62, some 64, some 66, some 68, some 70, some 72, some 74, some 76, some 78, some 80, some 82, some 84, none, none, none, none, none])).set 86 (7, 4, [none, none, none, none]))) (by decide +kernel) rfl nX1_9 rfl rfl (Nat.le_of_ble_eq_true rfl) (Nat.le_of_ble_eq_true rfl) dX1_init_26 (by decide +kernel) ?_
  refine zA_dup dX1_init_29 rfl ?_
  refine zA_initN (st := [zR 86, zI 15, zR 55]) (as := []) (T' := (((TF.take 88).set 0 (8, 16, [some 1, some 8, some 17, some 25, some 38, some 52, none, none, none, none, none, none, none, none, none, none])).set 55 (12, 20, [some 56, some 58, some 60, some 62, some 64, some 66, some 68, some 70, some 72, some 74, some 76, some 78, some 80, some 82, some 84, none, none, none, none, none]))) kX1_17 (i_X7 d μ _ _ 86 87 (by decide +kernel) rfl (by decide +kernel) (by decide +kernel)) rfl rfl rfl dX1_init_30 (zfitC (by omega) rfl rfl) (fun μ16 q16 => ?_)
  subst q16
  refine zA_aastW (I := 15) (n := 20) (nS := 4) (rs := [some 56, some 58, some 60, some 62, some 64, some 66, some 68, some 70, some 72, some 74, some 76, some 78, some 80, some 82, some 84, none, none, none, none, none]) (rS := [some 87, none, none, none]) (T' := (((TF.take 88).set 0 (8, 16, [some 1, some 8, some 17, some 25, some 38, some 52, none, none, none, none, none, none, none, none, none, none])).set 55 (12, 20, [some 56, some 58, some 60, some 62, some 64, some 66, some 68, some 70, some 72, some 74, some 76, some 78, some 80, some 82, some 84, some 86, none, none, none, none]))) rfl (by decide +kernel) (by decide +kernel) (Nat.le_of_ble_eq_true rfl) (Nat.le_of_ble_eq_true rfl) dX1_init_33 (by decide +kernel) ?_
  refine zA_iincB (ls' := [some (zR 54), some (zI 16)]) dX1_init_34 rfl rfl ⟨by decide, by decide⟩ rfl ?_
  refine zA_goto (tgt := 15) dX1_init_37 rfl ?_
  refine zA_iload_n dX1_init_15 rfl ?_
  refine zA_bipush dX1_init_16 rfl ?_
  refine zA_icmp_ge (tgt := 40) dX1_init_18 rfl (fun h => absurd h (by decide)) (fun _ => ?_)
  refine zA_aload_n dX1_init_21 rfl ?_
  refine zA_getR (n := 3) (rs := [some 55, none, none]) fX1_11 (by decide +kernel) rfl dX1_init_22 ?_
  refine zA_iload_n dX1_init_25 rfl ?_
  refine zA_newW (L := 88) (T' := ((((TF.take 89).set 0 (8, 16, [some 1, some 8, some 17, some 25, some 38, some 52, none, none, none, none, none, none, none, none, none, none])).set 55 (12, 20, [some 56, some 58, some 60, some 62, some 64, some 66, some 68, some 70, some 72, some 74, some 76, some 78, some 80, some 82, some 84, some 86, none, none, none, none])).set 88 (7, 4, [none, none, none, none]))) (by decide +kernel) rfl nX1_9 rfl rfl (Nat.le_of_ble_eq_true rfl) (Nat.le_of_ble_eq_true rfl) dX1_init_26 (by decide +kernel) ?_
  refine zA_dup dX1_init_29 rfl ?_
  refine zA_initN (st := [zR 88, zI 16, zR 55]) (as := []) (T' := (((TF.take 90).set 0 (8, 16, [some 1, some 8, some 17, some 25, some 38, some 52, none, none, none, none, none, none, none, none, none, none])).set 55 (12, 20, [some 56, some 58, some 60, some 62, some 64, some 66, some 68, some 70, some 72, some 74, some 76, some 78, some 80, some 82, some 84, some 86, none, none, none, none]))) kX1_17 (i_X7 d μ _ _ 88 89 (by decide +kernel) rfl (by decide +kernel) (by decide +kernel)) rfl rfl rfl dX1_init_30 (zfitC (by omega) rfl rfl) (fun μ17 q17 => ?_)
  subst q17
  refine zA_aastW (I := 16) (n := 20) (nS := 4) (rs := [some 56, some 58, some 60, some 62, some 64, some 66, some 68, some 70, some 72, some 74, some 76, some 78, some 80, some 82, some 84, some 86, none, none, none, none]) (rS := [some 89, none, none, none]) (T' := (((TF.take 90).set 0 (8, 16, [some 1, some 8, some 17, some 25, some 38, some 52, none, none, none, none, none, none, none, none, none, none])).set 55 (12, 20, [some 56, some 58, some 60, some 62, some 64, some 66, some 68, some 70, some 72, some 74, some 76, some 78, some 80, some 82, some 84, some 86, some 88, none, none, none]))) rfl (by decide +kernel) (by decide +kernel) (Nat.le_of_ble_eq_true rfl) (Nat.le_of_ble_eq_true rfl) dX1_init_33 (by decide +kernel) ?_
  refine zA_iincB (ls' := [some (zR 54), some (zI 17)]) dX1_init_34 rfl rfl ⟨by decide, by decide⟩ rfl ?_
  refine zA_goto (tgt := 15) dX1_init_37 rfl ?_
  refine zA_iload_n dX1_init_15 rfl ?_
  refine zA_bipush dX1_init_16 rfl ?_
  refine zA_icmp_ge (tgt := 40) dX1_init_18 rfl (fun h => absurd h (by decide)) (fun _ => ?_)
  refine zA_aload_n dX1_init_21 rfl ?_
  refine zA_getR (n := 3) (rs := [some 55, none, none]) fX1_11 (by decide +kernel) rfl dX1_init_22 ?_
  refine zA_iload_n dX1_init_25 rfl ?_
  refine zA_newW (L := 90) (T' := ((((TF.take 91).set 0 (8, 16, [some 1, some 8, some 17, some 25, some 38, some 52, none, none, none, none, none, none, none, none, none, none])).set 55 (12, 20, [some 56, some 58, some 60, some 62, some 64, some 66, some 68, some 70, some 72, some 74, some 76, some 78, some 80, some 82, some 84, some 86, some 88, none, none, none])).set 90 (7, 4, [none, none, none, none]))) (by decide +kernel) rfl nX1_9 rfl rfl (Nat.le_of_ble_eq_true rfl) (Nat.le_of_ble_eq_true rfl) dX1_init_26 (by decide +kernel) ?_
  refine zA_dup dX1_init_29 rfl ?_
  refine zA_initN (st := [zR 90, zI 17, zR 55]) (as := []) (T' := (((TF.take 92).set 0 (8, 16, [some 1, some 8, some 17, some 25, some 38, some 52, none, none, none, none, none, none, none, none, none, none])).set 55 (12, 20, [some 56, some 58, some 60, some 62, some 64, some 66, some 68, some 70, some 72, some 74, some 76, some 78, some 80, some 82, some 84, some 86, some 88, none, none, none]))) kX1_17 (i_X7 d μ _ _ 90 91 (by decide +kernel) rfl (by decide +kernel) (by decide +kernel)) rfl rfl rfl dX1_init_30 (zfitC (by omega) rfl rfl) (fun μ18 q18 => ?_)
  subst q18
  refine zA_aastW (I := 17) (n := 20) (nS := 4) (rs := [some 56, some 58, some 60, some 62, some 64, some 66, some 68, some 70, some 72, some 74, some 76, some 78, some 80, some 82, some 84, some 86, some 88, none, none, none]) (rS := [some 91, none, none, none]) (T' := (((TF.take 92).set 0 (8, 16, [some 1, some 8, some 17, some 25, some 38, some 52, none, none, none, none, none, none, none, none, none, none])).set 55 (12, 20, [some 56, some 58, some 60, some 62, some 64, some 66, some 68, some 70, some 72, some 74, some 76, some 78, some 80, some 82, some 84, some 86, some 88, some 90, none, none]))) rfl (by decide +kernel) (by decide +kernel) (Nat.le_of_ble_eq_true rfl) (Nat.le_of_ble_eq_true rfl) dX1_init_33 (by decide +kernel) ?_
  refine zA_iincB (ls' := [some (zR 54), some (zI 18)]) dX1_init_34 rfl rfl ⟨by decide, by decide⟩ rfl ?_
  refine zA_goto (tgt := 15) dX1_init_37 rfl ?_
  refine zA_iload_n dX1_init_15 rfl ?_
  refine zA_bipush dX1_init_16 rfl ?_
  refine zA_icmp_ge (tgt := 40) dX1_init_18 rfl (fun h => absurd h (by decide)) (fun _ => ?_)
  refine zA_aload_n dX1_init_21 rfl ?_
  refine zA_getR (n := 3) (rs := [some 55, none, none]) fX1_11 (by decide +kernel) rfl dX1_init_22 ?_
  refine zA_iload_n dX1_init_25 rfl ?_
  refine zA_newW (L := 92) (T' := ((((TF.take 93).set 0 (8, 16, [some 1, some 8, some 17, some 25, some 38, some 52, none, none, none, none, none, none, none, none, none, none])).set 55 (12, 20, [some 56, some 58, some 60, some 62, some 64, some 66, some 68, some 70, some 72, some 74, some 76, some 78, some 80, some 82, some 84, some 86, some 88, some 90, none, none])).set 92 (7, 4, [none, none, none, none]))) (by decide +kernel) rfl nX1_9 rfl rfl (Nat.le_of_ble_eq_true rfl) (Nat.le_of_ble_eq_true rfl) dX1_init_26 (by decide +kernel) ?_
  refine zA_dup dX1_init_29 rfl ?_
  refine zA_initN (st := [zR 92, zI 18, zR 55]) (as := []) (T' := (((TF.take 94).set 0 (8, 16, [some 1, some 8, some 17, some 25, some 38, some 52, none, none, none, none, none, none, none, none, none, none])).set 55 (12, 20, [some 56, some 58, some 60, some 62, some 64, some 66, some 68, some 70, some 72, some 74, some 76, some 78, some 80, some 82, some 84, some 86, some 88, some 90, none, none]))) kX1_17 (i_X7 d μ _ _ 92 93 (by decide +kernel) rfl (by decide +kernel) (by decide +kernel)) rfl rfl rfl dX1_init_30 (zfitC (by omega) rfl rfl) (fun μ19 q19 => ?_)
  subst q19
  refine zA_aastW (I := 18) (n := 20) (nS := 4) (rs := [some 56, some 58, some 60, some 62, some 64, some 66, some 68, some 70, some 72, some 74, some 76, some 78, some 80, some 82, some 84, some 86, some 88, some 90, none, none]) (rS := [some 93, none, none, none]) (T' := (((TF.take 94).set 0 (8, 16, [some 1, some 8, some 17, some 25, some 38, some 52, none, none, none, none, none, none, none, none, none, none])).set 55 (12, 20, [some 56, some 58, some 60, some 62, some 64, some 66, some 68, some 70, some 72, some 74, some 76, some 78, some 80, some 82, some 84, some 86, some 88, some 90, some 92, none]))) rfl (by decide +kernel) (by decide +kernel) (Nat.le_of_ble_eq_true rfl) (Nat.le_of_ble_eq_true rfl) dX1_init_33 (by decide +kernel) ?_
  refine zA_iincB (ls' := [some (zR 54), some (zI 19)]) dX1_init_34 rfl rfl ⟨by decide, by decide⟩ rfl ?_
  refine zA_goto (tgt := 15) dX1_init_37 rfl ?_
  refine zA_iload_n dX1_init_15 rfl ?_
  refine zA_bipush dX1_init_16 rfl ?_
  refine zA_icmp_ge (tgt := 40) dX1_init_18 rfl (fun h => absurd h (by decide)) (fun _ => ?_)
  refine zA_aload_n dX1_init_21 rfl ?_
  refine zA_getR (n := 3) (rs := [some 55, none, none]) fX1_11 (by decide +kernel) rfl dX1_init_22 ?_
  refine zA_iload_n dX1_init_25 rfl ?_
  refine zA_newW (L := 94) (T' := ((((TF.take 95).set 0 (8, 16, [some 1, some 8, some 17, some 25, some 38, some 52, none, none, none, none, none, none, none, none, none, none])).set 55 (12, 20, [some 56, some 58, some 60, some 62, some 64, some 66, some 68, some 70, some 72, some 74, some 76, some 78, some 80, some 82, some 84, some 86, some 88, some 90, some 92, none])).set 94 (7, 4, [none, none, none, none]))) (by decide +kernel) rfl nX1_9 rfl rfl (Nat.le_of_ble_eq_true rfl) (Nat.le_of_ble_eq_true rfl) dX1_init_26 (by decide +kernel) ?_
  refine zA_dup dX1_init_29 rfl ?_
  refine zA_initN (st := [zR 94, zI 19, zR 55]) (as := []) (T' := (((TF.take 96).set 0 (8, 16, [some 1, some 8, some 17, some 25, some 38, some 52, none, none, none, none, none, none, none, none, none, none])).set 55 (12, 20, [some 56, some 58, some 60, some 62, some 64, some 66, some 68, some 70, some 72, some 74, some 76, some 78, some 80, some 82, some 84, some 86, some 88, some 90, some 92, none]))) kX1_17 (i_X7 d μ _ _ 94 95 (by decide +kernel) rfl (by decide +kernel) (by decide +kernel)) rfl rfl rfl dX1_init_30 (zfitC (by omega) rfl rfl) (fun μ20 q20 => ?_)
  subst q20
  refine zA_aastW (I := 19) (n := 20) (nS := 4) (rs := [some 56, some 58, some 60, some 62, some 64, some 66, some 68, some 70, some 72, some 74, some 76, some 78, some 80, some 82, some 84, some 86, some 88, some 90, some 92, none]) (rS := [some 95, none, none, none]) (T' := ((TF.take 96).set 0 (8, 16, [some 1, some 8, some 17, some 25, some 38, some 52, none, none, none, none, none, none, none, none, none, none]))) rfl (by decide +kernel) (by decide +kernel) (Nat.le_of_ble_eq_true rfl) (Nat.le_of_ble_eq_true rfl) dX1_init_33 (by decide +kernel) ?_
  refine zA_iincB (ls' := [some (zR 54), some (zI 20)]) dX1_init_34 rfl rfl ⟨by decide, by decide⟩ rfl ?_
  refine zA_goto (tgt := 15) dX1_init_37 rfl ?_
  refine zA_iload_n dX1_init_15 rfl ?_
  refine zA_bipush dX1_init_16 rfl ?_
  refine zA_icmp_ge (tgt := 40) dX1_init_18 rfl (fun _ => ?_) (fun h => absurd h (by decide))
  exact zA_tret dX1_init_40 (Nat.le_of_ble_eq_true rfl) (Nat.le_of_ble_eq_true rfl) rfl rfl
theorem i_X3_96 (d : Nat) (μ : zM) : zMet (d + 1) 2 yX3_init cX3_init 2 none (((TF.take 97).set 0 (8, 16, [some 1, some 8, some 17, some 25, some 38, some 52, some 54, none, none, none, none, none, none, none, none, none])).set 96 (3, 4, [none, none, none, none])) μ [zR 96, zI 8] (zPt ((TF.take 99).set 0 (8, 16, [some 1, some 8, some 17, some 25, some 38, some 52, some 54, none, none, none, none, none, none, none, none, none])) (fun ν => (zup μ 96 2 8) = ν)) := by
  refine zMt_of RX3 rfl rfl (by decide) rfl (ls := [some (zR 96), some (zI 8)]) rfl ?_
  refine zA_aload_n dX3_init_0 rfl ?_
  refine zA_obj kX3_3 kob_im kob_c dX3_init_1 (by show 1 ≤ d + 1; omega) (by show _ ≤ 100 * (d + 1); simp only [zcat]; omega) ?_
  refine zA_aload_n dX3_init_4 rfl ?_
  refine zA_iload_n dX3_init_5 rfl ?_
  refine zA_putIF (n := 4) (rs := [none, none, none, none]) rfl wX3_9 (by decide +kernel) dX3_init_6 ?_
  refine zA_aload_n dX3_init_9 rfl ?_
  refine zA_iload_n dX3_init_10 rfl ?_
  refine zA_newIW (L := 97) (N := 8) (T' := (((TF.take 98).set 0 (8, 16, [some 1, some 8, some 17, some 25, some 38, some 52, some 54, none, none, none, none, none, none, none, none, none])).set 96 (3, 4, [none, none, none, none]))) (by decide +kernel) rfl rfl rfl (Nat.le_of_ble_eq_true rfl) (Nat.le_of_ble_eq_true rfl) dX3_init_11 (by decide +kernel) ?_
  refine zA_putRW (n := 4) (rs := [none, none, none, none]) (T' := (((TF.take 98).set 0 (8, 16, [some 1, some 8, some 17, some 25, some 38, some 52, some 54, none, none, none, none, none, none, none, none, none])).set 96 (3, 4, [some 97, none, none, none]))) rfl wX3_15 (by decide +kernel) rfl dX3_init_13 (by decide +kernel) ?_
  refine zA_aload_n dX3_init_16 rfl ?_
  refine zA_iload_n dX3_init_17 rfl ?_
  refine zA_newIW (L := 98) (N := 8) (T' := (((TF.take 99).set 0 (8, 16, [some 1, some 8, some 17, some 25, some 38, some 52, some 54, none, none, none, none, none, none, none, none, none])).set 96 (3, 4, [some 97, none, none, none]))) (by decide +kernel) rfl rfl rfl (Nat.le_of_ble_eq_true rfl) (Nat.le_of_ble_eq_true rfl) dX3_init_18 (by decide +kernel) ?_
  refine zA_putRW (n := 4) (rs := [some 97, none, none, none]) (T' := ((TF.take 99).set 0 (8, 16, [some 1, some 8, some 17, some 25, some 38, some 52, some 54, none, none, none, none, none, none, none, none, none]))) rfl wX3_19 (by decide +kernel) rfl dX3_init_20 (by decide +kernel) ?_
  exact zA_tret dX3_init_23 (Nat.le_of_ble_eq_true rfl) (Nat.le_of_ble_eq_true rfl) rfl rfl
theorem i_X3_99 (d : Nat) (μ : zM) : zMet (d + 1) 2 yX3_init cX3_init 2 none (((TF.take 100).set 0 (8, 16, [some 1, some 8, some 17, some 25, some 38, some 52, some 54, some 96, none, none, none, none, none, none, none, none])).set 99 (3, 4, [none, none, none, none])) μ [zR 99, zI 15] (zPt ((TF.take 102).set 0 (8, 16, [some 1, some 8, some 17, some 25, some 38, some 52, some 54, some 96, none, none, none, none, none, none, none, none])) (fun ν => (zup μ 99 2 15) = ν)) := by
  refine zMt_of RX3 rfl rfl (by decide) rfl (ls := [some (zR 99), some (zI 15)]) rfl ?_
  refine zA_aload_n dX3_init_0 rfl ?_
  refine zA_obj kX3_3 kob_im kob_c dX3_init_1 (by show 1 ≤ d + 1; omega) (by show _ ≤ 100 * (d + 1); simp only [zcat]; omega) ?_
  refine zA_aload_n dX3_init_4 rfl ?_
  refine zA_iload_n dX3_init_5 rfl ?_
  refine zA_putIF (n := 4) (rs := [none, none, none, none]) rfl wX3_9 (by decide +kernel) dX3_init_6 ?_
  refine zA_aload_n dX3_init_9 rfl ?_
  refine zA_iload_n dX3_init_10 rfl ?_
  refine zA_newIW (L := 100) (N := 15) (T' := (((TF.take 101).set 0 (8, 16, [some 1, some 8, some 17, some 25, some 38, some 52, some 54, some 96, none, none, none, none, none, none, none, none])).set 99 (3, 4, [none, none, none, none]))) (by decide +kernel) rfl rfl rfl (Nat.le_of_ble_eq_true rfl) (Nat.le_of_ble_eq_true rfl) dX3_init_11 (by decide +kernel) ?_
  refine zA_putRW (n := 4) (rs := [none, none, none, none]) (T' := (((TF.take 101).set 0 (8, 16, [some 1, some 8, some 17, some 25, some 38, some 52, some 54, some 96, none, none, none, none, none, none, none, none])).set 99 (3, 4, [some 100, none, none, none]))) rfl wX3_15 (by decide +kernel) rfl dX3_init_13 (by decide +kernel) ?_
  refine zA_aload_n dX3_init_16 rfl ?_
  refine zA_iload_n dX3_init_17 rfl ?_
  refine zA_newIW (L := 101) (N := 15) (T' := (((TF.take 102).set 0 (8, 16, [some 1, some 8, some 17, some 25, some 38, some 52, some 54, some 96, none, none, none, none, none, none, none, none])).set 99 (3, 4, [some 100, none, none, none]))) (by decide +kernel) rfl rfl rfl (Nat.le_of_ble_eq_true rfl) (Nat.le_of_ble_eq_true rfl) dX3_init_18 (by decide +kernel) ?_
  refine zA_putRW (n := 4) (rs := [some 100, none, none, none]) (T' := ((TF.take 102).set 0 (8, 16, [some 1, some 8, some 17, some 25, some 38, some 52, some 54, some 96, none, none, none, none, none, none, none, none]))) rfl wX3_19 (by decide +kernel) rfl dX3_init_20 (by decide +kernel) ?_
  exact zA_tret dX3_init_23 (Nat.le_of_ble_eq_true rfl) (Nat.le_of_ble_eq_true rfl) rfl rfl
theorem i_X8 (d : Nat) (μ : zM) : zMet (d + 3) 109 yX8_init cX8_init 2 none ((TF.take 1).set 0 (8, 16, [none, none, none, none, none, none, none, none, none, none, none, none, none, none, none, none])) μ [zR 0] (zPt (TF.take 110) (fun ν => (zup (zup (zup (zup μ 8 4 (-1)) 96 2 8) 99 2 15) 0 15 (-1)) = ν)) := by
  refine zMt_of RX8 rfl rfl (by decide) rfl (ls := [some (zR 0), none]) rfl ?_
  refine zA_aload_n dX8_init_0 rfl ?_
  refine zA_obj kX8_3 kob_im kob_c dX8_init_1 (by show 1 ≤ d + 3; omega) (by show _ ≤ 100 * (d + 3); simp only [zcat]; omega) ?_
  refine zA_aload_n dX8_init_4 rfl ?_
  refine zA_newW (L := 1) (T' := (((TF.take 2).set 0 (8, 16, [none, none, none, none, none, none, none, none, none, none, none, none, none, none, none, none])).set 1 (2, 12, [none, none, none, none, none, none, none, none, none, none, none, none]))) (by decide +kernel) rfl nX8_9 rfl rfl (Nat.le_of_ble_eq_true rfl) (Nat.le_of_ble_eq_true rfl) dX8_init_5 (by decide +kernel) ?_
  refine zA_dup dX8_init_8 rfl ?_
  refine zA_initN (st := [zR 1, zR 0]) (as := []) (T' := ((TF.take 8).set 0 (8, 16, [none, none, none, none, none, none, none, none, none, none, none, none, none, none, none, none]))) kX8_11 (i_X2_1 (d + 1) μ) rfl rfl rfl dX8_init_9 (zfitC (by omega) rfl rfl) (fun μ1 q1 => ?_)
  subst q1
  refine zA_putRW (n := 16) (rs := [none, none, none, none, none, none, none, none, none, none, none, none, none, none, none, none]) (T' := ((TF.take 8).set 0 (8, 16, [some 1, none, none, none, none, none, none, none, none, none, none, none, none, none, none, none]))) rfl wX8_12 (by decide +kernel) rfl dX8_init_12 (by decide +kernel) ?_
  refine zA_aload_n dX8_init_15 rfl ?_
  refine zA_newW (L := 8) (T' := (((TF.take 9).set 0 (8, 16, [some 1, none, none, none, none, none, none, none, none, none, none, none, none, none, none, none])).set 8 (5, 8, [none, none, none, none, none, none, none, none]))) (by decide +kernel) rfl nX8_16 rfl rfl (Nat.le_of_ble_eq_true rfl) (Nat.le_of_ble_eq_true rfl) dX8_init_16 (by decide +kernel) ?_
  refine zA_dup dX8_init_19 rfl ?_
  refine zA_initN (st := [zR 8, zR 0]) (as := []) (T' := ((TF.take 17).set 0 (8, 16, [some 1, none, none, none, none, none, none, none, none, none, none, none, none, none, none, none]))) kX8_18 (i_X5 d μ) rfl rfl rfl dX8_init_20 (zfitC (by omega) rfl rfl) (fun μ2 q2 => ?_)
  subst q2
  refine zA_putRW (n := 16) (rs := [some 1, none, none, none, none, none, none, none, none, none, none, none, none, none, none, none]) (T' := ((TF.take 17).set 0 (8, 16, [some 1, some 8, none, none, none, none, none, none, none, none, none, none, none, none, none, none]))) rfl wX8_19 (by decide +kernel) rfl dX8_init_23 (by decide +kernel) ?_
  refine zA_aload_n dX8_init_26 rfl ?_
  refine zA_newW (L := 17) (T' := (((TF.take 18).set 0 (8, 16, [some 1, some 8, none, none, none, none, none, none, none, none, none, none, none, none, none, none])).set 17 (6, 11, [none, none, none, none, none, none, none, none, none, none, none]))) (by decide +kernel) rfl nX8_23 rfl rfl (Nat.le_of_ble_eq_true rfl) (Nat.le_of_ble_eq_true rfl) dX8_init_27 (by decide +kernel) ?_
  refine zA_dup dX8_init_30 rfl ?_
  refine zA_initN (st := [zR 17, zR 0]) (as := []) (T' := ((TF.take 25).set 0 (8, 16, [some 1, some 8, none, none, none, none, none, none, none, none, none, none, none, none, none, none]))) kX8_25 (i_X6 (d + 1) (zup μ 8 4 (-1))) rfl rfl rfl dX8_init_31 (zfitC (by omega) rfl rfl) (fun μ3 q3 => ?_)
  subst q3
  refine zA_putRW (n := 16) (rs := [some 1, some 8, none, none, none, none, none, none, none, none, none, none, none, none, none, none]) (T' := ((TF.take 25).set 0 (8, 16, [some 1, some 8, some 17, none, none, none, none, none, none, none, none, none, none, none, none, none]))) rfl wX8_26 (by decide +kernel) rfl dX8_init_34 (by decide +kernel) ?_
  refine zA_aload_n dX8_init_37 rfl ?_
  refine zA_newW (L := 25) (T' := (((TF.take 26).set 0 (8, 16, [some 1, some 8, some 17, none, none, none, none, none, none, none, none, none, none, none, none, none])).set 25 (4, 6, [none, none, none, none, none, none]))) (by decide +kernel) rfl nX8_30 rfl rfl (Nat.le_of_ble_eq_true rfl) (Nat.le_of_ble_eq_true rfl) dX8_init_38 (by decide +kernel) ?_
  refine zA_dup dX8_init_41 rfl ?_
  refine zA_initN (st := [zR 25, zR 0]) (as := []) (T' := ((TF.take 38).set 0 (8, 16, [some 1, some 8, some 17, none, none, none, none, none, none, none, none, none, none, none, none, none]))) kX8_32 (i_X4 (d + 1) (zup μ 8 4 (-1))) rfl rfl rfl dX8_init_42 (zfitC (by omega) rfl rfl) (fun μ4 q4 => ?_)
  subst q4
  refine zA_putRW (n := 16) (rs := [some 1, some 8, some 17, none, none, none, none, none, none, none, none, none, none, none, none, none]) (T' := ((TF.take 38).set 0 (8, 16, [some 1, some 8, some 17, some 25, none, none, none, none, none, none, none, none, none, none, none, none]))) rfl wX8_33 (by decide +kernel) rfl dX8_init_45 (by decide +kernel) ?_
  refine zA_aload_n dX8_init_48 rfl ?_
  refine zA_newW (L := 38) (T' := (((TF.take 39).set 0 (8, 16, [some 1, some 8, some 17, some 25, none, none, none, none, none, none, none, none, none, none, none, none])).set 38 (0, 2, [none, none]))) (by decide +kernel) rfl nX8_37 rfl rfl (Nat.le_of_ble_eq_true rfl) (Nat.le_of_ble_eq_true rfl) dX8_init_49 (by decide +kernel) ?_
  refine zA_dup dX8_init_52 rfl ?_
  refine zA_initN (st := [zR 38, zR 0]) (as := []) (T' := ((TF.take 52).set 0 (8, 16, [some 1, some 8, some 17, some 25, none, none, none, none, none, none, none, none, none, none, none, none]))) kX8_39 (i_X0 (d + 1) (zup μ 8 4 (-1))) rfl rfl rfl dX8_init_53 (zfitC (by omega) rfl rfl) (fun μ5 q5 => ?_)
  subst q5
  refine zA_putRW (n := 16) (rs := [some 1, some 8, some 17, some 25, none, none, none, none, none, none, none, none, none, none, none, none]) (T' := ((TF.take 52).set 0 (8, 16, [some 1, some 8, some 17, some 25, some 38, none, none, none, none, none, none, none, none, none, none, none]))) rfl wX8_40 (by decide +kernel) rfl dX8_init_56 (by decide +kernel) ?_
  refine zA_aload_n dX8_init_59 rfl ?_
  refine zA_newW (L := 52) (T' := (((TF.take 53).set 0 (8, 16, [some 1, some 8, some 17, some 25, some 38, none, none, none, none, none, none, none, none, none, none, none])).set 52 (7, 4, [none, none, none, none]))) (by decide +kernel) rfl nX8_44 rfl rfl (Nat.le_of_ble_eq_true rfl) (Nat.le_of_ble_eq_true rfl) dX8_init_60 (by decide +kernel) ?_
  refine zA_dup dX8_init_63 rfl ?_
  refine zA_initN (st := [zR 52, zR 0]) (as := []) (T' := ((TF.take 54).set 0 (8, 16, [some 1, some 8, some 17, some 25, some 38, none, none, none, none, none, none, none, none, none, none, none]))) kX8_46 (i_X7 (d + 1) (zup μ 8 4 (-1)) _ _ 52 53 (by decide +kernel) rfl (by decide +kernel) (by decide +kernel)) rfl rfl rfl dX8_init_64 (zfitC (by omega) rfl rfl) (fun μ6 q6 => ?_)
  subst q6
  refine zA_putRW (n := 16) (rs := [some 1, some 8, some 17, some 25, some 38, none, none, none, none, none, none, none, none, none, none, none]) (T' := ((TF.take 54).set 0 (8, 16, [some 1, some 8, some 17, some 25, some 38, some 52, none, none, none, none, none, none, none, none, none, none]))) rfl wX8_47 (by decide +kernel) rfl dX8_init_67 (by decide +kernel) ?_
  refine zA_aload_n dX8_init_70 rfl ?_
  refine zA_newW (L := 54) (T' := (((TF.take 55).set 0 (8, 16, [some 1, some 8, some 17, some 25, some 38, some 52, none, none, none, none, none, none, none, none, none, none])).set 54 (1, 3, [none, none, none]))) (by decide +kernel) rfl nX8_51 rfl rfl (Nat.le_of_ble_eq_true rfl) (Nat.le_of_ble_eq_true rfl) dX8_init_71 (by decide +kernel) ?_
  refine zA_dup dX8_init_74 rfl ?_
  refine zA_init (st := [zR 54, zR 0]) (as := []) (T' := ((TF.take 96).set 0 (8, 16, [some 1, some 8, some 17, some 25, some 38, some 52, none, none, none, none, none, none, none, none, none, none]))) kX8_53 (i_X1 d (zup μ 8 4 (-1))) rfl rfl rfl dX8_init_75 (zfitC (by omega) rfl rfl) (fun μ7 q7 => ?_)
  subst q7
  refine zA_putRW (n := 16) (rs := [some 1, some 8, some 17, some 25, some 38, some 52, none, none, none, none, none, none, none, none, none, none]) (T' := ((TF.take 96).set 0 (8, 16, [some 1, some 8, some 17, some 25, some 38, some 52, some 54, none, none, none, none, none, none, none, none, none]))) rfl wX8_54 (by decide +kernel) rfl dX8_init_78 (by decide +kernel) ?_
  refine zA_aload_n dX8_init_81 rfl ?_
  refine zA_newW (L := 96) (T' := (((TF.take 97).set 0 (8, 16, [some 1, some 8, some 17, some 25, some 38, some 52, some 54, none, none, none, none, none, none, none, none, none])).set 96 (3, 4, [none, none, none, none]))) (by decide +kernel) rfl nX8_58 rfl rfl (Nat.le_of_ble_eq_true rfl) (Nat.le_of_ble_eq_true rfl) dX8_init_82 (by decide +kernel) ?_
  refine zA_dup dX8_init_85 rfl ?_
  refine zA_bipush dX8_init_86 rfl ?_
  refine zA_init (st := [zR 96, zR 0]) (as := [zI 8]) (T' := ((TF.take 99).set 0 (8, 16, [some 1, some 8, some 17, some 25, some 38, some 52, some 54, none, none, none, none, none, none, none, none, none]))) kX8_60 (i_X3_96 (d + 1) (zup μ 8 4 (-1))) rfl rfl rfl dX8_init_88 (zfitC (by omega) rfl rfl) (fun μ8 q8 => ?_)
  subst q8
  refine zA_putRW (n := 16) (rs := [some 1, some 8, some 17, some 25, some 38, some 52, some 54, none, none, none, none, none, none, none, none, none]) (T' := ((TF.take 99).set 0 (8, 16, [some 1, some 8, some 17, some 25, some 38, some 52, some 54, some 96, none, none, none, none, none, none, none, none]))) rfl wX8_63 (by decide +kernel) rfl dX8_init_91 (by decide +kernel) ?_
  refine zA_aload_n dX8_init_94 rfl ?_
  refine zA_newW (L := 99) (T' := (((TF.take 100).set 0 (8, 16, [some 1, some 8, some 17, some 25, some 38, some 52, some 54, some 96, none, none, none, none, none, none, none, none])).set 99 (3, 4, [none, none, none, none]))) (by decide +kernel) rfl nX8_58 rfl rfl (Nat.le_of_ble_eq_true rfl) (Nat.le_of_ble_eq_true rfl) dX8_init_95 (by decide +kernel) ?_
  refine zA_dup dX8_init_98 rfl ?_
  refine zA_bipush dX8_init_99 rfl ?_
  refine zA_init (st := [zR 99, zR 0]) (as := [zI 15]) (T' := ((TF.take 102).set 0 (8, 16, [some 1, some 8, some 17, some 25, some 38, some 52, some 54, some 96, none, none, none, none, none, none, none, none]))) kX8_60 (i_X3_99 (d + 1) (zup (zup μ 8 4 (-1)) 96 2 8)) rfl rfl rfl dX8_init_101 (zfitC (by omega) rfl rfl) (fun μ9 q9 => ?_)
  subst q9
  refine zA_putRW (n := 16) (rs := [some 1, some 8, some 17, some 25, some 38, some 52, some 54, some 96, none, none, none, none, none, none, none, none]) (T' := ((TF.take 102).set 0 (8, 16, [some 1, some 8, some 17, some 25, some 38, some 52, some 54, some 96, some 99, none, none, none, none, none, none, none]))) rfl wX8_67 (by decide +kernel) rfl dX8_init_104 (by decide +kernel) ?_
  refine zA_aload_n dX8_init_107 rfl ?_
  refine zA_iconst dX8_init_108 rfl ?_
  refine zA_anewSW (L := 102) (N := 2) (T' := (((TF.take 103).set 0 (8, 16, [some 1, some 8, some 17, some 25, some 38, some 52, some 54, some 96, some 99, none, none, none, none, none, none, none])).set 102 (12, 2, [none, none]))) (by decide +kernel) rfl lX8_44 rfl rfl (Nat.le_of_ble_eq_true rfl) (Nat.le_of_ble_eq_true rfl) dX8_init_109 (by decide +kernel) ?_
  refine zA_putRW (n := 16) (rs := [some 1, some 8, some 17, some 25, some 38, some 52, some 54, some 96, some 99, none, none, none, none, none, none, none]) (T' := (((TF.take 103).set 0 (8, 16, [some 1, some 8, some 17, some 25, some 38, some 52, some 54, some 96, some 99, some 102, none, none, none, none, none, none])).set 102 (12, 2, [none, none]))) rfl wX8_70 (by decide +kernel) rfl dX8_init_112 (by decide +kernel) ?_
  refine zA_aload_n dX8_init_115 rfl ?_
  refine zA_iconst dX8_init_116 rfl ?_
  refine zA_newIW (L := 103) (N := 2) (T' := (((TF.take 104).set 0 (8, 16, [some 1, some 8, some 17, some 25, some 38, some 52, some 54, some 96, some 99, some 102, none, none, none, none, none, none])).set 102 (12, 2, [none, none]))) (by decide +kernel) rfl rfl rfl (Nat.le_of_ble_eq_true rfl) (Nat.le_of_ble_eq_true rfl) dX8_init_117 (by decide +kernel) ?_
  refine zA_putRW (n := 16) (rs := [some 1, some 8, some 17, some 25, some 38, some 52, some 54, some 96, some 99, some 102, none, none, none, none, none, none]) (T' := (((TF.take 104).set 0 (8, 16, [some 1, some 8, some 17, some 25, some 38, some 52, some 54, some 96, some 99, some 102, some 103, none, none, none, none, none])).set 102 (12, 2, [none, none]))) rfl wX8_74 (by decide +kernel) rfl dX8_init_119 (by decide +kernel) ?_
  refine zA_aload_n dX8_init_122 rfl ?_
  refine zA_bipush dX8_init_123 rfl ?_
  refine zA_newIW (L := 104) (N := 30) (T' := (((TF.take 105).set 0 (8, 16, [some 1, some 8, some 17, some 25, some 38, some 52, some 54, some 96, some 99, some 102, some 103, none, none, none, none, none])).set 102 (12, 2, [none, none]))) (by decide +kernel) rfl rfl rfl (Nat.le_of_ble_eq_true rfl) (Nat.le_of_ble_eq_true rfl) dX8_init_125 (by decide +kernel) ?_
  refine zA_putRW (n := 16) (rs := [some 1, some 8, some 17, some 25, some 38, some 52, some 54, some 96, some 99, some 102, some 103, none, none, none, none, none]) (T' := (((TF.take 105).set 0 (8, 16, [some 1, some 8, some 17, some 25, some 38, some 52, some 54, some 96, some 99, some 102, some 103, some 104, none, none, none, none])).set 102 (12, 2, [none, none]))) rfl wX8_78 (by decide +kernel) rfl dX8_init_127 (by decide +kernel) ?_
  refine zA_aload_n dX8_init_130 rfl ?_
  refine zA_bipush dX8_init_131 rfl ?_
  refine zA_newIW (L := 105) (N := 30) (T' := (((TF.take 106).set 0 (8, 16, [some 1, some 8, some 17, some 25, some 38, some 52, some 54, some 96, some 99, some 102, some 103, some 104, none, none, none, none])).set 102 (12, 2, [none, none]))) (by decide +kernel) rfl rfl rfl (Nat.le_of_ble_eq_true rfl) (Nat.le_of_ble_eq_true rfl) dX8_init_133 (by decide +kernel) ?_
  refine zA_putRW (n := 16) (rs := [some 1, some 8, some 17, some 25, some 38, some 52, some 54, some 96, some 99, some 102, some 103, some 104, none, none, none, none]) (T' := ((TF.take 106).set 102 (12, 2, [none, none]))) rfl wX8_81 (by decide +kernel) rfl dX8_init_135 (by decide +kernel) ?_
  refine zA_aload_n dX8_init_138 rfl ?_
  refine zA_iconst dX8_init_139 rfl ?_
  refine zA_putI (n := 16) (rs := [some 1, some 8, some 17, some 25, some 38, some 52, some 54, some 96, some 99, some 102, some 103, some 104, some 105, none, none, none]) wX8_84 (by decide +kernel) dX8_init_140 ?_
  refine zA_iconst dX8_init_143 rfl ?_
  refine zA_istore_n (ls' := [some (zR 0), some (zI 0)]) dX8_init_144 rfl rfl ?_
  refine zA_iload_n dX8_init_145 rfl ?_
  refine zA_iconst dX8_init_146 rfl ?_
  refine zA_icmp_ge (tgt := 169) dX8_init_147 rfl (fun h => absurd h (by decide)) (fun _ => ?_)
  refine zA_aload_n dX8_init_150 rfl ?_
  refine zA_getR (n := 16) (rs := [some 1, some 8, some 17, some 25, some 38, some 52, some 54, some 96, some 99, some 102, some 103, some 104, some 105, none, none, none]) fX8_70 (by decide +kernel) rfl dX8_init_151 ?_
  refine zA_iload_n dX8_init_154 rfl ?_
  refine zA_newW (L := 106) (T' := (((TF.take 107).set 102 (12, 2, [none, none])).set 106 (7, 4, [none, none, none, none]))) (by decide +kernel) rfl nX8_44 rfl rfl (Nat.le_of_ble_eq_true rfl) (Nat.le_of_ble_eq_true rfl) dX8_init_155 (by decide +kernel) ?_
  refine zA_dup dX8_init_158 rfl ?_
  refine zA_initN (st := [zR 106, zI 0, zR 102]) (as := []) (T' := ((TF.take 108).set 102 (12, 2, [none, none]))) kX8_46 (i_X7 (d + 1) (zup (zup (zup (zup μ 8 4 (-1)) 96 2 8) 99 2 15) 0 15 (-1)) _ _ 106 107 (by decide +kernel) rfl (by decide +kernel) (by decide +kernel)) rfl rfl rfl dX8_init_159 (zfitC (by omega) rfl rfl) (fun μ10 q10 => ?_)
  subst q10
  refine zA_aastW (I := 0) (n := 2) (nS := 4) (rs := [none, none]) (rS := [some 107, none, none, none]) (T' := ((TF.take 108).set 102 (12, 2, [some 106, none]))) rfl (by decide +kernel) (by decide +kernel) (Nat.le_of_ble_eq_true rfl) (Nat.le_of_ble_eq_true rfl) dX8_init_162 (by decide +kernel) ?_
  refine zA_iincB (ls' := [some (zR 0), some (zI 1)]) dX8_init_163 rfl rfl ⟨by decide, by decide⟩ rfl ?_
  refine zA_goto (tgt := 145) dX8_init_166 rfl ?_
  refine zA_iload_n dX8_init_145 rfl ?_
  refine zA_iconst dX8_init_146 rfl ?_
  refine zA_icmp_ge (tgt := 169) dX8_init_147 rfl (fun h => absurd h (by decide)) (fun _ => ?_)
  refine zA_aload_n dX8_init_150 rfl ?_
  refine zA_getR (n := 16) (rs := [some 1, some 8, some 17, some 25, some 38, some 52, some 54, some 96, some 99, some 102, some 103, some 104, some 105, none, none, none]) fX8_70 (by decide +kernel) rfl dX8_init_151 ?_
  refine zA_iload_n dX8_init_154 rfl ?_
  refine zA_newW (L := 108) (T' := (((TF.take 109).set 102 (12, 2, [some 106, none])).set 108 (7, 4, [none, none, none, none]))) (by decide +kernel) rfl nX8_44 rfl rfl (Nat.le_of_ble_eq_true rfl) (Nat.le_of_ble_eq_true rfl) dX8_init_155 (by decide +kernel) ?_
  refine zA_dup dX8_init_158 rfl ?_
  refine zA_initN (st := [zR 108, zI 1, zR 102]) (as := []) (T' := ((TF.take 110).set 102 (12, 2, [some 106, none]))) kX8_46 (i_X7 (d + 1) (zup (zup (zup (zup μ 8 4 (-1)) 96 2 8) 99 2 15) 0 15 (-1)) _ _ 108 109 (by decide +kernel) rfl (by decide +kernel) (by decide +kernel)) rfl rfl rfl dX8_init_159 (zfitC (by omega) rfl rfl) (fun μ11 q11 => ?_)
  subst q11
  refine zA_aastW (I := 1) (n := 2) (nS := 4) (rs := [some 106, none]) (rS := [some 109, none, none, none]) (T' := (TF.take 110)) rfl (by decide +kernel) (by decide +kernel) (Nat.le_of_ble_eq_true rfl) (Nat.le_of_ble_eq_true rfl) dX8_init_162 (by decide +kernel) ?_
  refine zA_iincB (ls' := [some (zR 0), some (zI 2)]) dX8_init_163 rfl rfl ⟨by decide, by decide⟩ rfl ?_
  refine zA_goto (tgt := 145) dX8_init_166 rfl ?_
  refine zA_iload_n dX8_init_145 rfl ?_
  refine zA_iconst dX8_init_146 rfl ?_
  refine zA_icmp_ge (tgt := 169) dX8_init_147 rfl (fun _ => ?_) (fun h => absurd h (by decide))
  exact zA_tret dX8_init_169 (Nat.le_of_ble_eq_true rfl) (Nat.le_of_ble_eq_true rfl) rfl rfl
theorem i_X9 (d : Nat) (μ : zM) : zMet (d + 1) 20 yX9_init cX9_init 1 none ((TF.take 111).set 110 (9, 42, [none, none, none, none, none, none, none, none, none, none, none, none, none, none, none, none, none, none, none, none, none, none, none, none, none, none, none, none, none, none, none, none, none, none, none, none, none, none, none, none, none, none])) μ [zR 110] (zPt (TF.take 131) (fun ν => (zup (zup μ 110 12 (-1)) 110 0 0) = ν)) := by
  refine zMt_of RX9 rfl rfl (by decide) rfl (ls := [some (zR 110)]) rfl ?_
  refine zA_aload_n dX9_init_0 rfl ?_
  refine zA_obj kX9_1 kob_im kob_c dX9_init_1 (by show 1 ≤ d + 1; omega) (by show _ ≤ 100 * (d + 1); simp only [zcat]; omega) ?_
  refine zA_aload_n dX9_init_4 rfl ?_
  refine zA_bipush dX9_init_5 rfl ?_
  refine zA_newIW (L := 111) (N := 30) (T' := ((TF.take 112).set 110 (9, 42, [none, none, none, none, none, none, none, none, none, none, none, none, none, none, none, none, none, none, none, none, none, none, none, none, none, none, none, none, none, none, none, none, none, none, none, none, none, none, none, none, none, none]))) (by decide +kernel) rfl rfl rfl (Nat.le_of_ble_eq_true rfl) (Nat.le_of_ble_eq_true rfl) dX9_init_7 (by decide +kernel) ?_
  refine zA_putRW (n := 42) (rs := [none, none, none, none, none, none, none, none, none, none, none, none, none, none, none, none, none, none, none, none, none, none, none, none, none, none, none, none, none, none, none, none, none, none, none, none, none, none, none, none, none, none]) (T' := ((TF.take 112).set 110 (9, 42, [none, none, none, some 111, none, none, none, none, none, none, none, none, none, none, none, none, none, none, none, none, none, none, none, none, none, none, none, none, none, none, none, none, none, none, none, none, none, none, none, none, none, none]))) rfl wX9_7 (by decide +kernel) rfl dX9_init_9 (by decide +kernel) ?_
  refine zA_aload_n dX9_init_12 rfl ?_
  refine zA_bipush dX9_init_13 rfl ?_
  refine zA_newIW (L := 112) (N := 10) (T' := ((TF.take 113).set 110 (9, 42, [none, none, none, some 111, none, none, none, none, none, none, none, none, none, none, none, none, none, none, none, none, none, none, none, none, none, none, none, none, none, none, none, none, none, none, none, none, none, none, none, none, none, none]))) (by decide +kernel) rfl rfl rfl (Nat.le_of_ble_eq_true rfl) (Nat.le_of_ble_eq_true rfl) dX9_init_15 (by decide +kernel) ?_
  refine zA_putRW (n := 42) (rs := [none, none, none, some 111, none, none, none, none, none, none, none, none, none, none, none, none, none, none, none, none, none, none, none, none, none, none, none, none, none, none, none, none, none, none, none, none, none, none, none, none, none, none]) (T' := ((TF.take 113).set 110 (9, 42, [none, none, none, some 111, none, none, some 112, none, none, none, none, none, none, none, none, none, none, none, none, none, none, none, none, none, none, none, none, none, none, none, none, none, none, none, none, none, none, none, none, none, none, none]))) rfl wX9_13 (by decide +kernel) rfl dX9_init_17 (by decide +kernel) ?_
  refine zA_aload_n dX9_init_20 rfl ?_
  refine zA_bipush dX9_init_21 rfl ?_
  refine zA_newIW (L := 113) (N := 10) (T' := ((TF.take 114).set 110 (9, 42, [none, none, none, some 111, none, none, some 112, none, none, none, none, none, none, none, none, none, none, none, none, none, none, none, none, none, none, none, none, none, none, none, none, none, none, none, none, none, none, none, none, none, none, none]))) (by decide +kernel) rfl rfl rfl (Nat.le_of_ble_eq_true rfl) (Nat.le_of_ble_eq_true rfl) dX9_init_23 (by decide +kernel) ?_
  refine zA_putRW (n := 42) (rs := [none, none, none, some 111, none, none, some 112, none, none, none, none, none, none, none, none, none, none, none, none, none, none, none, none, none, none, none, none, none, none, none, none, none, none, none, none, none, none, none, none, none, none, none]) (T' := ((TF.take 114).set 110 (9, 42, [none, none, none, some 111, none, none, some 112, some 113, none, none, none, none, none, none, none, none, none, none, none, none, none, none, none, none, none, none, none, none, none, none, none, none, none, none, none, none, none, none, none, none, none, none]))) rfl wX9_16 (by decide +kernel) rfl dX9_init_25 (by decide +kernel) ?_
  refine zA_aload_n dX9_init_28 rfl ?_
  refine zA_bipush dX9_init_29 rfl ?_
  refine zA_newIW (L := 114) (N := 33) (T' := ((TF.take 115).set 110 (9, 42, [none, none, none, some 111, none, none, some 112, some 113, none, none, none, none, none, none, none, none, none, none, none, none, none, none, none, none, none, none, none, none, none, none, none, none, none, none, none, none, none, none, none, none, none, none]))) (by decide +kernel) rfl rfl rfl (Nat.le_of_ble_eq_true rfl) (Nat.le_of_ble_eq_true rfl) dX9_init_31 (by decide +kernel) ?_
  refine zA_putRW (n := 42) (rs := [none, none, none, some 111, none, none, some 112, some 113, none, none, none, none, none, none, none, none, none, none, none, none, none, none, none, none, none, none, none, none, none, none, none, none, none, none, none, none, none, none, none, none, none, none]) (T' := ((TF.take 115).set 110 (9, 42, [none, none, none, some 111, none, none, some 112, some 113, some 114, none, none, none, none, none, none, none, none, none, none, none, none, none, none, none, none, none, none, none, none, none, none, none, none, none, none, none, none, none, none, none, none, none]))) rfl wX9_19 (by decide +kernel) rfl dX9_init_33 (by decide +kernel) ?_
  refine zA_aload_n dX9_init_36 rfl ?_
  refine zA_sipush dX9_init_37 rfl ?_
  refine zA_newIW (L := 115) (N := 240) (T' := ((TF.take 116).set 110 (9, 42, [none, none, none, some 111, none, none, some 112, some 113, some 114, none, none, none, none, none, none, none, none, none, none, none, none, none, none, none, none, none, none, none, none, none, none, none, none, none, none, none, none, none, none, none, none, none]))) (by decide +kernel) rfl rfl rfl (Nat.le_of_ble_eq_true rfl) (Nat.le_of_ble_eq_true rfl) dX9_init_40 (by decide +kernel) ?_
  refine zA_putRW (n := 42) (rs := [none, none, none, some 111, none, none, some 112, some 113, some 114, none, none, none, none, none, none, none, none, none, none, none, none, none, none, none, none, none, none, none, none, none, none, none, none, none, none, none, none, none, none, none, none, none]) (T' := ((TF.take 116).set 110 (9, 42, [none, none, none, some 111, none, none, some 112, some 113, some 114, none, some 115, none, none, none, none, none, none, none, none, none, none, none, none, none, none, none, none, none, none, none, none, none, none, none, none, none, none, none, none, none, none, none]))) rfl wX9_22 (by decide +kernel) rfl dX9_init_42 (by decide +kernel) ?_
  refine zA_aload_n dX9_init_45 rfl ?_
  refine zA_iconst dX9_init_46 rfl ?_
  refine zA_putI (n := 42) (rs := [none, none, none, some 111, none, none, some 112, some 113, some 114, none, some 115, none, none, none, none, none, none, none, none, none, none, none, none, none, none, none, none, none, none, none, none, none, none, none, none, none, none, none, none, none, none, none]) wX9_25 (by decide +kernel) dX9_init_47 ?_
  refine zA_aload_n dX9_init_50 rfl ?_
  refine zA_bipush dX9_init_51 rfl ?_
  refine zA_newIW (L := 116) (N := 30) (T' := ((TF.take 117).set 110 (9, 42, [none, none, none, some 111, none, none, some 112, some 113, some 114, none, some 115, none, none, none, none, none, none, none, none, none, none, none, none, none, none, none, none, none, none, none, none, none, none, none, none, none, none, none, none, none, none, none]))) (by decide +kernel) rfl rfl rfl (Nat.le_of_ble_eq_true rfl) (Nat.le_of_ble_eq_true rfl) dX9_init_53 (by decide +kernel) ?_
  refine zA_putRW (n := 42) (rs := [none, none, none, some 111, none, none, some 112, some 113, some 114, none, some 115, none, none, none, none, none, none, none, none, none, none, none, none, none, none, none, none, none, none, none, none, none, none, none, none, none, none, none, none, none, none, none]) (T' := ((TF.take 117).set 110 (9, 42, [none, none, none, some 111, none, none, some 112, some 113, some 114, none, some 115, none, none, none, none, none, none, none, none, some 116, none, none, none, none, none, none, none, none, none, none, none, none, none, none, none, none, none, none, none, none, none, none]))) rfl wX9_29 (by decide +kernel) rfl dX9_init_55 (by decide +kernel) ?_
  refine zA_aload_n dX9_init_58 rfl ?_
  refine zA_bipush dX9_init_59 rfl ?_
  refine zA_newIW (L := 117) (N := 10) (T' := ((TF.take 118).set 110 (9, 42, [none, none, none, some 111, none, none, some 112, some 113, some 114, none, some 115, none, none, none, none, none, none, none, none, some 116, none, none, none, none, none, none, none, none, none, none, none, none, none, none, none, none, none, none, none, none, none, none]))) (by decide +kernel) rfl rfl rfl (Nat.le_of_ble_eq_true rfl) (Nat.le_of_ble_eq_true rfl) dX9_init_61 (by decide +kernel) ?_
  refine zA_putRW (n := 42) (rs := [none, none, none, some 111, none, none, some 112, some 113, some 114, none, some 115, none, none, none, none, none, none, none, none, some 116, none, none, none, none, none, none, none, none, none, none, none, none, none, none, none, none, none, none, none, none, none, none]) (T' := ((TF.take 118).set 110 (9, 42, [none, none, none, some 111, none, none, some 112, some 113, some 114, none, some 115, none, none, none, none, none, none, none, none, some 116, none, none, none, some 117, none, none, none, none, none, none, none, none, none, none, none, none, none, none, none, none, none, none]))) rfl wX9_32 (by decide +kernel) rfl dX9_init_63 (by decide +kernel) ?_
  refine zA_aload_n dX9_init_66 rfl ?_
  refine zA_bipush dX9_init_67 rfl ?_
  refine zA_newIW (L := 118) (N := 10) (T' := ((TF.take 119).set 110 (9, 42, [none, none, none, some 111, none, none, some 112, some 113, some 114, none, some 115, none, none, none, none, none, none, none, none, some 116, none, none, none, some 117, none, none, none, none, none, none, none, none, none, none, none, none, none, none, none, none, none, none]))) (by decide +kernel) rfl rfl rfl (Nat.le_of_ble_eq_true rfl) (Nat.le_of_ble_eq_true rfl) dX9_init_69 (by decide +kernel) ?_
  refine zA_putRW (n := 42) (rs := [none, none, none, some 111, none, none, some 112, some 113, some 114, none, some 115, none, none, none, none, none, none, none, none, some 116, none, none, none, some 117, none, none, none, none, none, none, none, none, none, none, none, none, none, none, none, none, none, none]) (T' := ((TF.take 119).set 110 (9, 42, [none, none, none, some 111, none, none, some 112, some 113, some 114, none, some 115, none, none, none, none, none, none, none, none, some 116, none, none, none, some 117, some 118, none, none, none, none, none, none, none, none, none, none, none, none, none, none, none, none, none]))) rfl wX9_35 (by decide +kernel) rfl dX9_init_71 (by decide +kernel) ?_
  refine zA_aload_n dX9_init_74 rfl ?_
  refine zA_bipush dX9_init_75 rfl ?_
  refine zA_newIW (L := 119) (N := 10) (T' := ((TF.take 120).set 110 (9, 42, [none, none, none, some 111, none, none, some 112, some 113, some 114, none, some 115, none, none, none, none, none, none, none, none, some 116, none, none, none, some 117, some 118, none, none, none, none, none, none, none, none, none, none, none, none, none, none, none, none, none]))) (by decide +kernel) rfl rfl rfl (Nat.le_of_ble_eq_true rfl) (Nat.le_of_ble_eq_true rfl) dX9_init_77 (by decide +kernel) ?_
  refine zA_putRW (n := 42) (rs := [none, none, none, some 111, none, none, some 112, some 113, some 114, none, some 115, none, none, none, none, none, none, none, none, some 116, none, none, none, some 117, some 118, none, none, none, none, none, none, none, none, none, none, none, none, none, none, none, none, none]) (T' := ((TF.take 120).set 110 (9, 42, [none, none, none, some 111, none, none, some 112, some 113, some 114, none, some 115, none, none, none, none, none, none, none, none, some 116, none, none, none, some 117, some 118, some 119, none, none, none, none, none, none, none, none, none, none, none, none, none, none, none, none]))) rfl wX9_38 (by decide +kernel) rfl dX9_init_79 (by decide +kernel) ?_
  refine zA_aload_n dX9_init_82 rfl ?_
  refine zA_sipush dX9_init_83 rfl ?_
  refine zA_newIW (L := 120) (N := 660) (T' := ((TF.take 121).set 110 (9, 42, [none, none, none, some 111, none, none, some 112, some 113, some 114, none, some 115, none, none, none, none, none, none, none, none, some 116, none, none, none, some 117, some 118, some 119, none, none, none, none, none, none, none, none, none, none, none, none, none, none, none, none]))) (by decide +kernel) rfl rfl rfl (Nat.le_of_ble_eq_true rfl) (Nat.le_of_ble_eq_true rfl) dX9_init_86 (by decide +kernel) ?_
  refine zA_putRW (n := 42) (rs := [none, none, none, some 111, none, none, some 112, some 113, some 114, none, some 115, none, none, none, none, none, none, none, none, some 116, none, none, none, some 117, some 118, some 119, none, none, none, none, none, none, none, none, none, none, none, none, none, none, none, none]) (T' := ((TF.take 121).set 110 (9, 42, [none, none, none, some 111, none, none, some 112, some 113, some 114, none, some 115, none, none, none, none, none, none, none, none, some 116, none, none, none, some 117, some 118, some 119, none, some 120, none, none, none, none, none, none, none, none, none, none, none, none, none, none]))) rfl wX9_41 (by decide +kernel) rfl dX9_init_88 (by decide +kernel) ?_
  refine zA_aload_n dX9_init_91 rfl ?_
  refine zA_iconst dX9_init_92 rfl ?_
  refine zA_newIW (L := 121) (N := 5) (T' := ((TF.take 122).set 110 (9, 42, [none, none, none, some 111, none, none, some 112, some 113, some 114, none, some 115, none, none, none, none, none, none, none, none, some 116, none, none, none, some 117, some 118, some 119, none, some 120, none, none, none, none, none, none, none, none, none, none, none, none, none, none]))) (by decide +kernel) rfl rfl rfl (Nat.le_of_ble_eq_true rfl) (Nat.le_of_ble_eq_true rfl) dX9_init_93 (by decide +kernel) ?_
  refine zA_putRW (n := 42) (rs := [none, none, none, some 111, none, none, some 112, some 113, some 114, none, some 115, none, none, none, none, none, none, none, none, some 116, none, none, none, some 117, some 118, some 119, none, some 120, none, none, none, none, none, none, none, none, none, none, none, none, none, none]) (T' := ((TF.take 122).set 110 (9, 42, [none, none, none, some 111, none, none, some 112, some 113, some 114, none, some 115, none, none, none, none, none, none, none, none, some 116, none, none, none, some 117, some 118, some 119, none, some 120, some 121, none, none, none, none, none, none, none, none, none, none, none, none, none]))) rfl wX9_44 (by decide +kernel) rfl dX9_init_95 (by decide +kernel) ?_
  refine zA_aload_n dX9_init_98 rfl ?_
  refine zA_bipush dX9_init_99 rfl ?_
  refine zA_newIW (L := 122) (N := 30) (T' := ((TF.take 123).set 110 (9, 42, [none, none, none, some 111, none, none, some 112, some 113, some 114, none, some 115, none, none, none, none, none, none, none, none, some 116, none, none, none, some 117, some 118, some 119, none, some 120, some 121, none, none, none, none, none, none, none, none, none, none, none, none, none]))) (by decide +kernel) rfl rfl rfl (Nat.le_of_ble_eq_true rfl) (Nat.le_of_ble_eq_true rfl) dX9_init_101 (by decide +kernel) ?_
  refine zA_putRW (n := 42) (rs := [none, none, none, some 111, none, none, some 112, some 113, some 114, none, some 115, none, none, none, none, none, none, none, none, some 116, none, none, none, some 117, some 118, some 119, none, some 120, some 121, none, none, none, none, none, none, none, none, none, none, none, none, none]) (T' := ((TF.take 123).set 110 (9, 42, [none, none, none, some 111, none, none, some 112, some 113, some 114, none, some 115, none, none, none, none, none, none, none, none, some 116, none, none, none, some 117, some 118, some 119, none, some 120, some 121, some 122, none, none, none, none, none, none, none, none, none, none, none, none]))) rfl wX9_47 (by decide +kernel) rfl dX9_init_103 (by decide +kernel) ?_
  refine zA_aload_n dX9_init_106 rfl ?_
  refine zA_bipush dX9_init_107 rfl ?_
  refine zA_newIW (L := 123) (N := 30) (T' := ((TF.take 124).set 110 (9, 42, [none, none, none, some 111, none, none, some 112, some 113, some 114, none, some 115, none, none, none, none, none, none, none, none, some 116, none, none, none, some 117, some 118, some 119, none, some 120, some 121, some 122, none, none, none, none, none, none, none, none, none, none, none, none]))) (by decide +kernel) rfl rfl rfl (Nat.le_of_ble_eq_true rfl) (Nat.le_of_ble_eq_true rfl) dX9_init_109 (by decide +kernel) ?_
  refine zA_putRW (n := 42) (rs := [none, none, none, some 111, none, none, some 112, some 113, some 114, none, some 115, none, none, none, none, none, none, none, none, some 116, none, none, none, some 117, some 118, some 119, none, some 120, some 121, some 122, none, none, none, none, none, none, none, none, none, none, none, none]) (T' := ((TF.take 124).set 110 (9, 42, [none, none, none, some 111, none, none, some 112, some 113, some 114, none, some 115, none, none, none, none, none, none, none, none, some 116, none, none, none, some 117, some 118, some 119, none, some 120, some 121, some 122, none, none, some 123, none, none, none, none, none, none, none, none, none]))) rfl wX9_50 (by decide +kernel) rfl dX9_init_111 (by decide +kernel) ?_
  refine zA_aload_n dX9_init_114 rfl ?_
  refine zA_bipush dX9_init_115 rfl ?_
  refine zA_newIW (L := 124) (N := 8) (T' := ((TF.take 125).set 110 (9, 42, [none, none, none, some 111, none, none, some 112, some 113, some 114, none, some 115, none, none, none, none, none, none, none, none, some 116, none, none, none, some 117, some 118, some 119, none, some 120, some 121, some 122, none, none, some 123, none, none, none, none, none, none, none, none, none]))) (by decide +kernel) rfl rfl rfl (Nat.le_of_ble_eq_true rfl) (Nat.le_of_ble_eq_true rfl) dX9_init_117 (by decide +kernel) ?_
  refine zA_putRW (n := 42) (rs := [none, none, none, some 111, none, none, some 112, some 113, some 114, none, some 115, none, none, none, none, none, none, none, none, some 116, none, none, none, some 117, some 118, some 119, none, some 120, some 121, some 122, none, none, some 123, none, none, none, none, none, none, none, none, none]) (T' := ((TF.take 125).set 110 (9, 42, [none, none, none, some 111, none, none, some 112, some 113, some 114, none, some 115, none, none, none, none, none, none, none, none, some 116, none, none, none, some 117, some 118, some 119, none, some 120, some 121, some 122, none, none, some 123, none, some 124, none, none, none, none, none, none, none]))) rfl wX9_53 (by decide +kernel) rfl dX9_init_119 (by decide +kernel) ?_
  refine zA_aload_n dX9_init_122 rfl ?_
  refine zA_bipush dX9_init_123 rfl ?_
  refine zA_newIW (L := 125) (N := 8) (T' := ((TF.take 126).set 110 (9, 42, [none, none, none, some 111, none, none, some 112, some 113, some 114, none, some 115, none, none, none, none, none, none, none, none, some 116, none, none, none, some 117, some 118, some 119, none, some 120, some 121, some 122, none, none, some 123, none, some 124, none, none, none, none, none, none, none]))) (by decide +kernel) rfl rfl rfl (Nat.le_of_ble_eq_true rfl) (Nat.le_of_ble_eq_true rfl) dX9_init_125 (by decide +kernel) ?_
  refine zA_putRW (n := 42) (rs := [none, none, none, some 111, none, none, some 112, some 113, some 114, none, some 115, none, none, none, none, none, none, none, none, some 116, none, none, none, some 117, some 118, some 119, none, some 120, some 121, some 122, none, none, some 123, none, some 124, none, none, none, none, none, none, none]) (T' := ((TF.take 126).set 110 (9, 42, [none, none, none, some 111, none, none, some 112, some 113, some 114, none, some 115, none, none, none, none, none, none, none, none, some 116, none, none, none, some 117, some 118, some 119, none, some 120, some 121, some 122, none, none, some 123, none, some 124, some 125, none, none, none, none, none, none]))) rfl wX9_56 (by decide +kernel) rfl dX9_init_127 (by decide +kernel) ?_
  refine zA_aload_n dX9_init_130 rfl ?_
  refine zA_sipush dX9_init_131 rfl ?_
  refine zA_newIW (L := 126) (N := 330) (T' := ((TF.take 127).set 110 (9, 42, [none, none, none, some 111, none, none, some 112, some 113, some 114, none, some 115, none, none, none, none, none, none, none, none, some 116, none, none, none, some 117, some 118, some 119, none, some 120, some 121, some 122, none, none, some 123, none, some 124, some 125, none, none, none, none, none, none]))) (by decide +kernel) rfl rfl rfl (Nat.le_of_ble_eq_true rfl) (Nat.le_of_ble_eq_true rfl) dX9_init_134 (by decide +kernel) ?_
  refine zA_putRW (n := 42) (rs := [none, none, none, some 111, none, none, some 112, some 113, some 114, none, some 115, none, none, none, none, none, none, none, none, some 116, none, none, none, some 117, some 118, some 119, none, some 120, some 121, some 122, none, none, some 123, none, some 124, some 125, none, none, none, none, none, none]) (T' := ((TF.take 127).set 110 (9, 42, [none, none, none, some 111, none, none, some 112, some 113, some 114, none, some 115, none, none, none, none, none, none, none, none, some 116, none, none, none, some 117, some 118, some 119, none, some 120, some 121, some 122, none, none, some 123, none, some 124, some 125, some 126, none, none, none, none, none]))) rfl wX9_59 (by decide +kernel) rfl dX9_init_136 (by decide +kernel) ?_
  refine zA_aload_n dX9_init_139 rfl ?_
  refine zA_bipush dX9_init_140 rfl ?_
  refine zA_newIW (L := 127) (N := 15) (T' := ((TF.take 128).set 110 (9, 42, [none, none, none, some 111, none, none, some 112, some 113, some 114, none, some 115, none, none, none, none, none, none, none, none, some 116, none, none, none, some 117, some 118, some 119, none, some 120, some 121, some 122, none, none, some 123, none, some 124, some 125, some 126, none, none, none, none, none]))) (by decide +kernel) rfl rfl rfl (Nat.le_of_ble_eq_true rfl) (Nat.le_of_ble_eq_true rfl) dX9_init_142 (by decide +kernel) ?_
  refine zA_putRW (n := 42) (rs := [none, none, none, some 111, none, none, some 112, some 113, some 114, none, some 115, none, none, none, none, none, none, none, none, some 116, none, none, none, some 117, some 118, some 119, none, some 120, some 121, some 122, none, none, some 123, none, some 124, some 125, some 126, none, none, none, none, none]) (T' := ((TF.take 128).set 110 (9, 42, [none, none, none, some 111, none, none, some 112, some 113, some 114, none, some 115, none, none, none, none, none, none, none, none, some 116, none, none, none, some 117, some 118, some 119, none, some 120, some 121, some 122, none, none, some 123, none, some 124, some 125, some 126, none, some 127, none, none, none]))) rfl wX9_62 (by decide +kernel) rfl dX9_init_144 (by decide +kernel) ?_
  refine zA_aload_n dX9_init_147 rfl ?_
  refine zA_bipush dX9_init_148 rfl ?_
  refine zA_newIW (L := 128) (N := 15) (T' := ((TF.take 129).set 110 (9, 42, [none, none, none, some 111, none, none, some 112, some 113, some 114, none, some 115, none, none, none, none, none, none, none, none, some 116, none, none, none, some 117, some 118, some 119, none, some 120, some 121, some 122, none, none, some 123, none, some 124, some 125, some 126, none, some 127, none, none, none]))) (by decide +kernel) rfl rfl rfl (Nat.le_of_ble_eq_true rfl) (Nat.le_of_ble_eq_true rfl) dX9_init_150 (by decide +kernel) ?_
  refine zA_putRW (n := 42) (rs := [none, none, none, some 111, none, none, some 112, some 113, some 114, none, some 115, none, none, none, none, none, none, none, none, some 116, none, none, none, some 117, some 118, some 119, none, some 120, some 121, some 122, none, none, some 123, none, some 124, some 125, some 126, none, some 127, none, none, none]) (T' := ((TF.take 129).set 110 (9, 42, [none, none, none, some 111, none, none, some 112, some 113, some 114, none, some 115, none, none, none, none, none, none, none, none, some 116, none, none, none, some 117, some 118, some 119, none, some 120, some 121, some 122, none, none, some 123, none, some 124, some 125, some 126, none, some 127, some 128, none, none]))) rfl wX9_65 (by decide +kernel) rfl dX9_init_152 (by decide +kernel) ?_
  refine zA_aload_n dX9_init_155 rfl ?_
  refine zA_bipush dX9_init_156 rfl ?_
  refine zA_newIW (L := 129) (N := 68) (T' := ((TF.take 130).set 110 (9, 42, [none, none, none, some 111, none, none, some 112, some 113, some 114, none, some 115, none, none, none, none, none, none, none, none, some 116, none, none, none, some 117, some 118, some 119, none, some 120, some 121, some 122, none, none, some 123, none, some 124, some 125, some 126, none, some 127, some 128, none, none]))) (by decide +kernel) rfl rfl rfl (Nat.le_of_ble_eq_true rfl) (Nat.le_of_ble_eq_true rfl) dX9_init_158 (by decide +kernel) ?_
  refine zA_putRW (n := 42) (rs := [none, none, none, some 111, none, none, some 112, some 113, some 114, none, some 115, none, none, none, none, none, none, none, none, some 116, none, none, none, some 117, some 118, some 119, none, some 120, some 121, some 122, none, none, some 123, none, some 124, some 125, some 126, none, some 127, some 128, none, none]) (T' := ((TF.take 130).set 110 (9, 42, [none, none, none, some 111, none, none, some 112, some 113, some 114, none, some 115, none, none, none, none, none, none, none, none, some 116, none, none, none, some 117, some 118, some 119, none, some 120, some 121, some 122, none, none, some 123, none, some 124, some 125, some 126, none, some 127, some 128, some 129, none]))) rfl wX9_68 (by decide +kernel) rfl dX9_init_160 (by decide +kernel) ?_
  refine zA_aload_n dX9_init_163 rfl ?_
  refine zA_iconst dX9_init_164 rfl ?_
  refine zA_newZW (L := 130) (N := 2) (T' := ((TF.take 131).set 110 (9, 42, [none, none, none, some 111, none, none, some 112, some 113, some 114, none, some 115, none, none, none, none, none, none, none, none, some 116, none, none, none, some 117, some 118, some 119, none, some 120, some 121, some 122, none, none, some 123, none, some 124, some 125, some 126, none, some 127, some 128, some 129, none]))) (by decide +kernel) rfl rfl rfl (Nat.le_of_ble_eq_true rfl) (Nat.le_of_ble_eq_true rfl) dX9_init_165 (by decide +kernel) ?_
  refine zA_putRW (n := 42) (rs := [none, none, none, some 111, none, none, some 112, some 113, some 114, none, some 115, none, none, none, none, none, none, none, none, some 116, none, none, none, some 117, some 118, some 119, none, some 120, some 121, some 122, none, none, some 123, none, some 124, some 125, some 126, none, some 127, some 128, some 129, none]) (T' := (TF.take 131)) rfl wX9_71 (by decide +kernel) rfl dX9_init_167 (by decide +kernel) ?_
  refine zA_aload_n dX9_init_170 rfl ?_
  refine zA_iconst dX9_init_171 rfl ?_
  refine zA_putI (n := 42) (rs := [none, none, none, some 111, none, none, some 112, some 113, some 114, none, some 115, none, none, none, none, none, none, none, none, some 116, none, none, none, some 117, some 118, some 119, none, some 120, some 121, some 122, none, none, some 123, none, some 124, some 125, some 126, none, some 127, some 128, some 129, some 130]) wX9_75 (by decide +kernel) dX9_init_172 ?_
  exact zA_tret dX9_init_175 (Nat.le_of_ble_eq_true rfl) (Nat.le_of_ble_eq_true rfl) rfl rfl
