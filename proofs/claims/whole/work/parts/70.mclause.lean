/-! ===== the model reads: a clause; house() ===== -/
def mS (ν : zM) : txT → Prop
  | (_, n, u, m, g, dg, t, ow, fi, se) => mD ν n u m g dg t ow fi se
theorem mS.h8 {μ ν : zM} : ∀ {S : txT}, mS μ S → h8 μ ν → mS ν S
  | (_, _, _, _, _, _, _, _, _, _), h, h' => mD.h8 h h'
theorem txCo2_0 {x : Nat → Int} {L a : Nat} (h : (txCo2 x L a).1 = 0) : (txCo2 x L a).2 ≤ L := by
  unfold txCo2 at *
  obtain ⟨h1, h2, e1⟩ := txB_z h
  rw [e1]
  exact (txN_0 h2).2.2
theorem txCt_0 {x : Nat → Int} {L n a : Nat} (ha : a ≤ L) (h : (txCt x L n a).1 = 0) : (txCt x L n a).2 ≤ L := by
  unfold txCt at *
  obtain ⟨h1, h2, e1⟩ := txB_z h
  rw [e1]
  split at h2
  · next e =>
    rw [if_pos e]
    exact (txXs_0 ha n h1).2.2
  · cases h2
theorem txDy_0 {x : Nat → Int} {L m a : Nat} (ha : a ≤ L) (h : (txDy x L m a).1 = 0) : (txDy x L m a).2 ≤ L := by
  unfold txDy at *
  obtain ⟨h1, h2, e1⟩ := txB_z h
  rw [e1]
  split at h2
  · cases h2
  · next e =>
    rw [if_neg e]
    exact txS_L (txTs_0 ha _ h1).2.2
theorem t_X9_takeClause (d : Nat) (μ ν : zM) (x : Nat → Int) (L : Nat) (out o : Int × Nat) (Q : txT) (v : Int) (hT : mT μ x L) (hf : hR μ ν) (hm : mO μ ν v o) (hrg : oR o) (hb : o.1 = 0 → o.2 ≤ L) (ho : out = txB o (fun b => txG x L 59 b)) (hQ : v = 0 → mS ν Q) : zA RX9 cX9_takeClause 5 (zRm (d + 6) 0) zN0 TF 0 ν 214 [some (zR 110), none, none, none, none] [zI v] (zPi (fun v ξ => hR μ ξ ∧ mO μ ξ v out ∧ (v = 0 → mS ξ Q))) := by
  refine zA_istore (ls' := [some (zR 110), none, none, none, some (zI v)]) dX9_takeClause_214 rfl rfl ?_
  refine zA_iload dX9_takeClause_216 rfl ?_
  refine zA_if_le (tgt := 226) dX9_takeClause_218 rfl (fun h218 => ?_) (fun h218 => ?_)
  · have r1 := mO_0 hm hrg h218
    refine zA_aload_n dX9_takeClause_226 rfl ?_
    refine zA_bipush dX9_takeClause_227 rfl ?_
    refine zA_cVi (st := []) kX9_124 t_110 rfl rfl (c_X9_sign (d + 3) ν x L o.2 59 (hb r1.1) (hf.mt hT) r1.2.2.1) rfl rfl rfl dX9_takeClause_229 (zfit0 (by omega) rfl) (fun v1 μ1 q1 => ?_)
    obtain ⟨g1, o1⟩ := q1
    exact zA_ri dX9_takeClause_232 ⟨hf.trans g1.hR, mO_b (by rw [ho, txB_0 r1.1]) r1.2.2.2 o1, fun e => (hQ r1.2.1).h8 g1⟩
  · refine zA_iload dX9_takeClause_221 rfl ?_
    refine zA_goto (tgt := 232) dX9_takeClause_223 rfl ?_
    exact zA_ri dX9_takeClause_232 ⟨hf, mO_f (by rw [ho]; exact txB_n (mO_1 hm (by omega))) (mO_1 hm (by omega)) hm, fun e => absurd e (by omega)⟩
theorem c_X9_takeClause (d : Nat) (μ : zM) (x : Nat → Int) (L a n m t : Nat) (u g dg : Int) (ow fi se : Nat → Int) (hT : mT μ x L) (h5 : μ 110 13 = a) (hD : mD μ n u m g dg t ow fi se) (hW : txW L (a, n, u, m, g, dg, t, ow, fi, se)) : zMet (d + 6) 0 yX9_takeClause cX9_takeClause 5 (some .int) TF μ [zR 110] (zPi (fun v ν => hR μ ν ∧ mO μ ν v (txO x L (a, n, u, m, g, dg, t, ow, fi, se)) ∧ (v = 0 → mS ν (txQ x L (a, n, u, m, g, dg, t, ow, fi, se))))) := by
  have hL := hT.2.1
  have haL := hW.1
  have hsL := @txS_L x L a haL
  obtain ⟨w1, w2, w3, w4, w5, w6, w7, w8, w9⟩ := hW
  refine zMi_of RX9 rfl (by decide) rfl (ls := [some (zR 110), none, none, none, none]) rfl (fun hok => ?_)
  refine zA_aload_n dX9_takeClause_0 rfl ?_
  refine zA_cVi (st := []) kX9_97 t_110 rfl rfl (c_X9_here (d + 4) μ x L a haL hT h5) rfl rfl rfl dX9_takeClause_1 (zfit0 (by omega) rfl) (fun v1 μ1 q1 => ?_)
  obtain ⟨rfl, rfl⟩ := q1
  refine zA_istore_n (ls' := [some (zR 110), some (zI (txH x L a)), none, none, none]) dX9_takeClause_4 rfl rfl ?_
  refine zA_iload_n dX9_takeClause_5 rfl ?_
  refine zA_bipush dX9_takeClause_6 rfl ?_
  refine zA_icmp_ne (tgt := 15) dX9_takeClause_8 rfl (fun k8 => ?_) (fun k8 => ?_)
  · refine zA_iload_n dX9_takeClause_15 rfl ?_
    refine zA_bipush dX9_takeClause_16 rfl ?_
    refine zA_icmp_ne (tgt := 25) dX9_takeClause_18 rfl (fun k18 => ?_) (fun k18 => ?_)
    · refine zA_iload_n dX9_takeClause_25 rfl ?_
      refine zA_bipush dX9_takeClause_26 rfl ?_
      refine zA_icmp_ne (tgt := 35) dX9_takeClause_28 rfl (fun k28 => ?_) (fun k28 => ?_)
      · refine zA_iload_n dX9_takeClause_35 rfl ?_
        refine zA_bipush dX9_takeClause_36 rfl ?_
        refine zA_icmp_ne (tgt := 45) dX9_takeClause_38 rfl (fun k38 => ?_) (fun k38 => ?_)
        · refine zA_iload_n dX9_takeClause_45 rfl ?_
          refine zA_bipush dX9_takeClause_46 rfl ?_
          refine zA_icmp_ne (tgt := 55) dX9_takeClause_48 rfl (fun k48 => ?_) (fun k48 => ?_)
          · refine zA_iconst dX9_takeClause_55 rfl ?_
            refine zA_istore_n (ls' := [some (zR 110), some (zI (txH x L a)), some (zI (-1)), none, none]) dX9_takeClause_56 rfl rfl ?_
            refine zA_iload_n dX9_takeClause_57 rfl ?_
            refine zA_if_lt (tgt := 72) dX9_takeClause_58 rfl (fun h58 => ?_) (fun h58 => False.elim (by omega))
            refine zA_aload_n dX9_takeClause_72 rfl ?_
            refine zA_iconst dX9_takeClause_73 rfl ?_
            refine zA_aload_n dX9_takeClause_74 rfl ?_
            refine zA_getE (w := (txS x L a : Int)) fX9_94 t_110 dX9_takeClause_75 (by rw [zup_s]) ?_
            refine zA_cVi (st := []) kX9_105 t_110 rfl rfl (c_X9_fails (d + 4) (1) ((txS x L a : Int)) (zup μ 110 13 ((txS x L a : Int)))) rfl rfl rfl dX9_takeClause_78 (zfit0 (by omega) rfl) (fun v2 μ2 q2 => ?_)
            obtain ⟨rfl, rfl⟩ := q2
            exact zA_ri dX9_takeClause_81 ⟨hR_u (by decide) (hR_u (by decide) (hR.refl _)), mO_g (f := 1) (w := txS x L a) (by simp only [txO]; rw [if_neg k8, if_neg k18, if_neg (show ¬ (txH x L a = 103 ∨ txH x L a = 104) by omega), if_neg k38]; split <;> rfl) (by decide) rfl (by rw [zup_s]), fun e => absurd e (by decide)⟩
          · refine zA_iconst dX9_takeClause_51 rfl ?_
            refine zA_goto (tgt := 56) dX9_takeClause_52 rfl ?_
            refine zA_istore_n (ls' := [some (zR 110), some (zI (txH x L a)), some (zI 4), none, none]) dX9_takeClause_56 rfl rfl ?_
            refine zA_iload_n dX9_takeClause_57 rfl ?_
            refine zA_if_lt (tgt := 72) dX9_takeClause_58 rfl (fun h58 => False.elim (by omega)) fun h58 => ?_
            refine zA_iload_n dX9_takeClause_61 rfl ?_
            refine zA_if_le (tgt := 82) dX9_takeClause_62 rfl (fun h62 => False.elim (by omega)) fun h62 => ?_
            refine zA_aload_n dX9_takeClause_65 rfl ?_
            refine zA_getE (w := (n : Int)) fX9_118 t_110 dX9_takeClause_66 (by rw [zup_n (by decide)]; exact hD.1) ?_
            refine zA_if_ne (tgt := 82) dX9_takeClause_69 rfl (fun h69 => ?_) (fun h69 => ?_)
            · refine zA_iload_n dX9_takeClause_82 rfl ?_
              refine zA_if_ne (tgt := 101) dX9_takeClause_83 rfl (fun h83 => ?_) (fun h83 => False.elim (by omega))
              refine zA_iload_n dX9_takeClause_101 rfl ?_
              refine zA_iconst dX9_takeClause_102 rfl ?_
              refine zA_icmp_ne (tgt := 123) dX9_takeClause_103 rfl (fun h103 => ?_) (fun h103 => False.elim (by omega))
              refine zA_iload_n dX9_takeClause_123 rfl ?_
              refine zA_iconst dX9_takeClause_124 rfl ?_
              refine zA_icmp_ne (tgt := 139) dX9_takeClause_125 rfl (fun h125 => ?_) (fun h125 => False.elim (by omega))
              refine zA_iconst dX9_takeClause_139 rfl ?_
              refine zA_istore_n (ls' := [some (zR 110), some (zI (txH x L a)), some (zI 4), some (zI 0), none]) dX9_takeClause_140 rfl rfl ?_
              refine zA_iload_n dX9_takeClause_141 rfl ?_
              refine zA_if_eq (tgt := 155) dX9_takeClause_142 rfl (fun h142 => ?_) (fun h142 => False.elim (by omega))
              refine zA_aload_n dX9_takeClause_155 rfl ?_
              refine zA_dup dX9_takeClause_156 rfl ?_
              refine zA_getE (w := (txS x L a : Int)) fX9_94 t_110 dX9_takeClause_157 (by rw [zup_s]) ?_
              refine zA_iconst dX9_takeClause_160 rfl ?_
              refine zA_iaddB dX9_takeClause_161 ⟨by omega, by omega⟩ ?_
              refine zA_putI wX9_94 t_110 dX9_takeClause_162 ?_
              have hlt := txH_lt (x := x) (L := L) (a := a) (by omega)
              have g0 : h8 μ (zup (zup μ 110 13 (txS x L a : Int)) 110 13 ((txS x L a : Int) + 1)) := h8_up (by decide) (h8.u (by decide))
              have hD0 := hD.h8 g0
              refine zA_iload_n dX9_takeClause_165 rfl ?_
              refine zA_if_ne (tgt := 176) dX9_takeClause_166 rfl (fun h166 => ?_) (fun h166 => False.elim (by omega))
              refine zA_iload_n dX9_takeClause_176 rfl ?_
              refine zA_iconst dX9_takeClause_177 rfl ?_
              refine zA_icmp_ne (tgt := 188) dX9_takeClause_178 rfl (fun h178 => ?_) (fun h178 => False.elim (by omega))
              refine zA_iload_n dX9_takeClause_188 rfl ?_
              refine zA_iconst dX9_takeClause_189 rfl ?_
              refine zA_icmp_ne (tgt := 200) dX9_takeClause_190 rfl (fun h190 => ?_) (fun h190 => False.elim (by omega))
              refine zA_aload_n dX9_takeClause_200 rfl ?_
              refine zA_iload_n dX9_takeClause_201 rfl ?_
              refine zA_iconst dX9_takeClause_202 rfl ?_
              refine zA_icmp_ne (tgt := 210) dX9_takeClause_203 rfl (fun h203 => False.elim (by omega)) fun h203 => ?_
              refine zA_iconst dX9_takeClause_206 rfl ?_
              refine zA_goto (tgt := 211) dX9_takeClause_207 rfl ?_
              refine zA_cVi (st := []) kX9_159 t_110 rfl rfl (c_X9_takeKind1 (d + 1) (zup (zup μ 110 13 ((txS x L a : Int))) 110 13 (((txS x L a : Int)) + 1)) x L (txS x L a + 1) n m t u g dg ow fi se hlt.1 (g0.mt hT) (by rw [zup_s]; rfl) hD0 w5) rfl rfl rfl dX9_takeClause_211 (zfit0 (by omega) rfl) (fun v3 μ3 q3 => ?_)
              obtain ⟨g3, o3, w3⟩ := q3
              refine zA_dr (ls' := [some (zR 110), none, some (zI 4), some (zI 0), none]) 1 rfl ?_
              refine zA_dr (ls' := [some (zR 110), none, none, some (zI 0), none]) 2 rfl ?_
              refine zA_dr (ls' := [some (zR 110), none, none, none, none]) 3 rfl ?_
              exact t_X9_takeClause d μ μ3 x L _ (txUn x L (zor g dg) m (txS x L a + 1)) _ v3 hT (g0.hR.trans g3) (mO_b rfl rfl o3) txUn_rg (fun e => (txUn_0 e).2) (by simp only [txO]; rw [if_neg (by omega), if_neg (by omega), if_neg (by omega), if_pos (Or.inr k48)]; exact txKind_un) (fun e => by simp only [txQ]; rw [if_neg (by omega), if_neg (by omega), if_neg (by omega), if_pos k48]; exact w3 e)
            · refine zA_aload_n dX9_takeClause_72 rfl ?_
              refine zA_iconst dX9_takeClause_73 rfl ?_
              refine zA_aload_n dX9_takeClause_74 rfl ?_
              refine zA_getE (w := (txS x L a : Int)) fX9_94 t_110 dX9_takeClause_75 (by rw [zup_s]) ?_
              refine zA_cVi (st := []) kX9_105 t_110 rfl rfl (c_X9_fails (d + 4) (1) ((txS x L a : Int)) (zup μ 110 13 ((txS x L a : Int)))) rfl rfl rfl dX9_takeClause_78 (zfit0 (by omega) rfl) (fun v4 μ4 q4 => ?_)
              obtain ⟨rfl, rfl⟩ := q4
              exact zA_ri dX9_takeClause_81 ⟨hR_u (by decide) (hR_u (by decide) (hR.refl _)), mO_g (f := 1) (w := txS x L a) (by simp only [txO]; rw [if_neg (by omega), if_pos (by omega)]) (by decide) rfl (by rw [zup_s]), fun e => absurd e (by decide)⟩
        · refine zA_iconst dX9_takeClause_41 rfl ?_
          refine zA_goto (tgt := 56) dX9_takeClause_42 rfl ?_
          refine zA_istore_n (ls' := [some (zR 110), some (zI (txH x L a)), some (zI 3), none, none]) dX9_takeClause_56 rfl rfl ?_
          refine zA_iload_n dX9_takeClause_57 rfl ?_
          refine zA_if_lt (tgt := 72) dX9_takeClause_58 rfl (fun h58 => False.elim (by omega)) fun h58 => ?_
          refine zA_iload_n dX9_takeClause_61 rfl ?_
          refine zA_if_le (tgt := 82) dX9_takeClause_62 rfl (fun h62 => False.elim (by omega)) fun h62 => ?_
          refine zA_aload_n dX9_takeClause_65 rfl ?_
          refine zA_getE (w := (n : Int)) fX9_118 t_110 dX9_takeClause_66 (by rw [zup_n (by decide)]; exact hD.1) ?_
          refine zA_if_ne (tgt := 82) dX9_takeClause_69 rfl (fun h69 => ?_) (fun h69 => ?_)
          · refine zA_iload_n dX9_takeClause_82 rfl ?_
            refine zA_if_ne (tgt := 101) dX9_takeClause_83 rfl (fun h83 => ?_) (fun h83 => False.elim (by omega))
            refine zA_iload_n dX9_takeClause_101 rfl ?_
            refine zA_iconst dX9_takeClause_102 rfl ?_
            refine zA_icmp_ne (tgt := 123) dX9_takeClause_103 rfl (fun h103 => ?_) (fun h103 => False.elim (by omega))
            refine zA_iload_n dX9_takeClause_123 rfl ?_
            refine zA_iconst dX9_takeClause_124 rfl ?_
            refine zA_icmp_ne (tgt := 139) dX9_takeClause_125 rfl (fun h125 => False.elim (by omega)) fun h125 => ?_
            refine zA_aload_n dX9_takeClause_128 rfl ?_
            refine zA_getE (w := (t : Int)) fX9_144 t_110 dX9_takeClause_129 (by rw [zup_n (by decide)]; exact hD.2.2.2.2.2.1) ?_
            refine zA_if_le (tgt := 139) dX9_takeClause_132 rfl (fun h132 => ?_) (fun h132 => ?_)
            · refine zA_iconst dX9_takeClause_139 rfl ?_
              refine zA_istore_n (ls' := [some (zR 110), some (zI (txH x L a)), some (zI 3), some (zI 0), none]) dX9_takeClause_140 rfl rfl ?_
              refine zA_iload_n dX9_takeClause_141 rfl ?_
              refine zA_if_eq (tgt := 155) dX9_takeClause_142 rfl (fun h142 => ?_) (fun h142 => False.elim (by omega))
              refine zA_aload_n dX9_takeClause_155 rfl ?_
              refine zA_dup dX9_takeClause_156 rfl ?_
              refine zA_getE (w := (txS x L a : Int)) fX9_94 t_110 dX9_takeClause_157 (by rw [zup_s]) ?_
              refine zA_iconst dX9_takeClause_160 rfl ?_
              refine zA_iaddB dX9_takeClause_161 ⟨by omega, by omega⟩ ?_
              refine zA_putI wX9_94 t_110 dX9_takeClause_162 ?_
              have hlt := txH_lt (x := x) (L := L) (a := a) (by omega)
              have g0 : h8 μ (zup (zup μ 110 13 (txS x L a : Int)) 110 13 ((txS x L a : Int) + 1)) := h8_up (by decide) (h8.u (by decide))
              have hD0 := hD.h8 g0
              refine zA_iload_n dX9_takeClause_165 rfl ?_
              refine zA_if_ne (tgt := 176) dX9_takeClause_166 rfl (fun h166 => ?_) (fun h166 => False.elim (by omega))
              refine zA_iload_n dX9_takeClause_176 rfl ?_
              refine zA_iconst dX9_takeClause_177 rfl ?_
              refine zA_icmp_ne (tgt := 188) dX9_takeClause_178 rfl (fun h178 => ?_) (fun h178 => False.elim (by omega))
              refine zA_iload_n dX9_takeClause_188 rfl ?_
              refine zA_iconst dX9_takeClause_189 rfl ?_
              refine zA_icmp_ne (tgt := 200) dX9_takeClause_190 rfl (fun h190 => False.elim (by omega)) fun h190 => ?_
              refine zA_aload_n dX9_takeClause_193 rfl ?_
              refine zA_cVi (st := []) kX9_156 t_110 rfl rfl (c_X9_takeDay d (zup (zup μ 110 13 ((txS x L a : Int))) 110 13 (((txS x L a : Int)) + 1)) x L (txS x L a + 1) n m t u g dg ow fi se hlt.1 (g0.mt hT) (by rw [zup_s]; rfl) hD0 w5 (by omega)) rfl rfl rfl dX9_takeClause_194 (zfit0 (by omega) rfl) (fun v5 μ5 q5 => ?_)
              obtain ⟨g5, o5, w5⟩ := q5
              refine zA_goto (tgt := 214) dX9_takeClause_197 rfl ?_
              refine zA_dr (ls' := [some (zR 110), none, some (zI 3), some (zI 0), none]) 1 rfl ?_
              refine zA_dr (ls' := [some (zR 110), none, none, some (zI 0), none]) 2 rfl ?_
              refine zA_dr (ls' := [some (zR 110), none, none, none, none]) 3 rfl ?_
              exact t_X9_takeClause d μ μ5 x L _ (txDy x L m (txS x L a + 1)) _ v5 hT (g0.hR.trans g5) (mO_b rfl rfl o5) txDy_rg (txDy_0 hlt.1) (by simp only [txO]; rw [if_neg (by omega), if_neg (by omega), if_neg (by omega), if_neg (by omega), if_pos k38, if_neg (by omega)]; exact txDay_2) (fun e => by simp only [txQ]; rw [if_neg (by omega), if_neg (by omega), if_neg (by omega), if_neg (by omega)]; exact w5 e)
            · refine zA_iconst dX9_takeClause_135 rfl ?_
              refine zA_goto (tgt := 140) dX9_takeClause_136 rfl ?_
              refine zA_istore_n (ls' := [some (zR 110), some (zI (txH x L a)), some (zI 3), some (zI 1), none]) dX9_takeClause_140 rfl rfl ?_
              refine zA_iload_n dX9_takeClause_141 rfl ?_
              refine zA_if_eq (tgt := 155) dX9_takeClause_142 rfl (fun h142 => False.elim (by omega)) fun h142 => ?_
              refine zA_aload_n dX9_takeClause_145 rfl ?_
              refine zA_iconst dX9_takeClause_146 rfl ?_
              refine zA_aload_n dX9_takeClause_147 rfl ?_
              refine zA_getE (w := (txS x L a : Int)) fX9_94 t_110 dX9_takeClause_148 (by rw [zup_s]) ?_
              refine zA_cVi (st := []) kX9_105 t_110 rfl rfl (c_X9_fails (d + 4) (3) ((txS x L a : Int)) (zup μ 110 13 ((txS x L a : Int)))) rfl rfl rfl dX9_takeClause_151 (zfit0 (by omega) rfl) (fun v6 μ6 q6 => ?_)
              obtain ⟨rfl, rfl⟩ := q6
              exact zA_ri dX9_takeClause_154 ⟨hR_u (by decide) (hR_u (by decide) (hR.refl _)), mO_g (f := 3) (w := txS x L a) (by simp only [txO]; rw [if_neg (by omega), if_neg (by omega), if_neg (by omega), if_neg (by omega), if_pos k38, if_pos (by omega)]) (by decide) rfl (by rw [zup_s]), fun e => absurd e (by decide)⟩
          · refine zA_aload_n dX9_takeClause_72 rfl ?_
            refine zA_iconst dX9_takeClause_73 rfl ?_
            refine zA_aload_n dX9_takeClause_74 rfl ?_
            refine zA_getE (w := (txS x L a : Int)) fX9_94 t_110 dX9_takeClause_75 (by rw [zup_s]) ?_
            refine zA_cVi (st := []) kX9_105 t_110 rfl rfl (c_X9_fails (d + 4) (1) ((txS x L a : Int)) (zup μ 110 13 ((txS x L a : Int)))) rfl rfl rfl dX9_takeClause_78 (zfit0 (by omega) rfl) (fun v7 μ7 q7 => ?_)
            obtain ⟨rfl, rfl⟩ := q7
            exact zA_ri dX9_takeClause_81 ⟨hR_u (by decide) (hR_u (by decide) (hR.refl _)), mO_g (f := 1) (w := txS x L a) (by simp only [txO]; rw [if_neg (by omega), if_pos (by omega)]) (by decide) rfl (by rw [zup_s]), fun e => absurd e (by decide)⟩
      · refine zA_iconst dX9_takeClause_31 rfl ?_
        refine zA_goto (tgt := 56) dX9_takeClause_32 rfl ?_
        refine zA_istore_n (ls' := [some (zR 110), some (zI (txH x L a)), some (zI 2), none, none]) dX9_takeClause_56 rfl rfl ?_
        refine zA_iload_n dX9_takeClause_57 rfl ?_
        refine zA_if_lt (tgt := 72) dX9_takeClause_58 rfl (fun h58 => False.elim (by omega)) fun h58 => ?_
        refine zA_iload_n dX9_takeClause_61 rfl ?_
        refine zA_if_le (tgt := 82) dX9_takeClause_62 rfl (fun h62 => False.elim (by omega)) fun h62 => ?_
        refine zA_aload_n dX9_takeClause_65 rfl ?_
        refine zA_getE (w := (n : Int)) fX9_118 t_110 dX9_takeClause_66 (by rw [zup_n (by decide)]; exact hD.1) ?_
        refine zA_if_ne (tgt := 82) dX9_takeClause_69 rfl (fun h69 => ?_) (fun h69 => ?_)
        · refine zA_iload_n dX9_takeClause_82 rfl ?_
          refine zA_if_ne (tgt := 101) dX9_takeClause_83 rfl (fun h83 => ?_) (fun h83 => False.elim (by omega))
          refine zA_iload_n dX9_takeClause_101 rfl ?_
          refine zA_iconst dX9_takeClause_102 rfl ?_
          refine zA_icmp_ne (tgt := 123) dX9_takeClause_103 rfl (fun h103 => ?_) (fun h103 => False.elim (by omega))
          refine zA_iload_n dX9_takeClause_123 rfl ?_
          refine zA_iconst dX9_takeClause_124 rfl ?_
          refine zA_icmp_ne (tgt := 139) dX9_takeClause_125 rfl (fun h125 => ?_) (fun h125 => False.elim (by omega))
          refine zA_iconst dX9_takeClause_139 rfl ?_
          refine zA_istore_n (ls' := [some (zR 110), some (zI (txH x L a)), some (zI 2), some (zI 0), none]) dX9_takeClause_140 rfl rfl ?_
          refine zA_iload_n dX9_takeClause_141 rfl ?_
          refine zA_if_eq (tgt := 155) dX9_takeClause_142 rfl (fun h142 => ?_) (fun h142 => False.elim (by omega))
          refine zA_aload_n dX9_takeClause_155 rfl ?_
          refine zA_dup dX9_takeClause_156 rfl ?_
          refine zA_getE (w := (txS x L a : Int)) fX9_94 t_110 dX9_takeClause_157 (by rw [zup_s]) ?_
          refine zA_iconst dX9_takeClause_160 rfl ?_
          refine zA_iaddB dX9_takeClause_161 ⟨by omega, by omega⟩ ?_
          refine zA_putI wX9_94 t_110 dX9_takeClause_162 ?_
          have hlt := txH_lt (x := x) (L := L) (a := a) (by omega)
          have g0 : h8 μ (zup (zup μ 110 13 (txS x L a : Int)) 110 13 ((txS x L a : Int) + 1)) := h8_up (by decide) (h8.u (by decide))
          have hD0 := hD.h8 g0
          refine zA_iload_n dX9_takeClause_165 rfl ?_
          refine zA_if_ne (tgt := 176) dX9_takeClause_166 rfl (fun h166 => ?_) (fun h166 => False.elim (by omega))
          refine zA_iload_n dX9_takeClause_176 rfl ?_
          refine zA_iconst dX9_takeClause_177 rfl ?_
          refine zA_icmp_ne (tgt := 188) dX9_takeClause_178 rfl (fun h178 => ?_) (fun h178 => False.elim (by omega))
          refine zA_iload_n dX9_takeClause_188 rfl ?_
          refine zA_iconst dX9_takeClause_189 rfl ?_
          refine zA_icmp_ne (tgt := 200) dX9_takeClause_190 rfl (fun h190 => ?_) (fun h190 => False.elim (by omega))
          refine zA_aload_n dX9_takeClause_200 rfl ?_
          refine zA_iload_n dX9_takeClause_201 rfl ?_
          refine zA_iconst dX9_takeClause_202 rfl ?_
          refine zA_icmp_ne (tgt := 210) dX9_takeClause_203 rfl (fun h203 => ?_) (fun h203 => False.elim (by omega))
          refine zA_iconst dX9_takeClause_210 rfl ?_
          refine zA_cVi (st := []) kX9_159 t_110 rfl rfl (c_X9_takeKind0 (d + 1) (zup (zup μ 110 13 ((txS x L a : Int))) 110 13 (((txS x L a : Int)) + 1)) x L (txS x L a + 1) n m t u g dg ow fi se hlt.1 (g0.mt hT) (by rw [zup_s]; rfl) hD0 w5) rfl rfl rfl dX9_takeClause_211 (zfit0 (by omega) rfl) (fun v8 μ8 q8 => ?_)
          obtain ⟨g8, o8, w8⟩ := q8
          refine zA_dr (ls' := [some (zR 110), none, some (zI 2), some (zI 0), none]) 1 rfl ?_
          refine zA_dr (ls' := [some (zR 110), none, none, some (zI 0), none]) 2 rfl ?_
          refine zA_dr (ls' := [some (zR 110), none, none, none, none]) 3 rfl ?_
          exact t_X9_takeClause d μ μ8 x L _ (txUn x L (zor g dg) m (txS x L a + 1)) _ v8 hT (g0.hR.trans g8) (mO_b rfl rfl o8) txUn_rg (fun e => (txUn_0 e).2) (by simp only [txO]; rw [if_neg (by omega), if_neg (by omega), if_neg (by omega), if_pos (Or.inl k28)]; exact txKind_un) (fun e => by simp only [txQ]; rw [if_neg (by omega), if_neg (by omega), if_pos k28]; exact w8 e)
        · refine zA_aload_n dX9_takeClause_72 rfl ?_
          refine zA_iconst dX9_takeClause_73 rfl ?_
          refine zA_aload_n dX9_takeClause_74 rfl ?_
          refine zA_getE (w := (txS x L a : Int)) fX9_94 t_110 dX9_takeClause_75 (by rw [zup_s]) ?_
          refine zA_cVi (st := []) kX9_105 t_110 rfl rfl (c_X9_fails (d + 4) (1) ((txS x L a : Int)) (zup μ 110 13 ((txS x L a : Int)))) rfl rfl rfl dX9_takeClause_78 (zfit0 (by omega) rfl) (fun v9 μ9 q9 => ?_)
          obtain ⟨rfl, rfl⟩ := q9
          exact zA_ri dX9_takeClause_81 ⟨hR_u (by decide) (hR_u (by decide) (hR.refl _)), mO_g (f := 1) (w := txS x L a) (by simp only [txO]; rw [if_neg (by omega), if_pos (by omega)]) (by decide) rfl (by rw [zup_s]), fun e => absurd e (by decide)⟩
    · refine zA_iconst dX9_takeClause_21 rfl ?_
      refine zA_goto (tgt := 56) dX9_takeClause_22 rfl ?_
      refine zA_istore_n (ls' := [some (zR 110), some (zI (txH x L a)), some (zI 1), none, none]) dX9_takeClause_56 rfl rfl ?_
      refine zA_iload_n dX9_takeClause_57 rfl ?_
      refine zA_if_lt (tgt := 72) dX9_takeClause_58 rfl (fun h58 => False.elim (by omega)) fun h58 => ?_
      refine zA_iload_n dX9_takeClause_61 rfl ?_
      refine zA_if_le (tgt := 82) dX9_takeClause_62 rfl (fun h62 => False.elim (by omega)) fun h62 => ?_
      refine zA_aload_n dX9_takeClause_65 rfl ?_
      refine zA_getE (w := (n : Int)) fX9_118 t_110 dX9_takeClause_66 (by rw [zup_n (by decide)]; exact hD.1) ?_
      refine zA_if_ne (tgt := 82) dX9_takeClause_69 rfl (fun h69 => ?_) (fun h69 => ?_)
      · refine zA_iload_n dX9_takeClause_82 rfl ?_
        refine zA_if_ne (tgt := 101) dX9_takeClause_83 rfl (fun h83 => ?_) (fun h83 => False.elim (by omega))
        refine zA_iload_n dX9_takeClause_101 rfl ?_
        refine zA_iconst dX9_takeClause_102 rfl ?_
        refine zA_icmp_ne (tgt := 123) dX9_takeClause_103 rfl (fun h103 => False.elim (by omega)) fun h103 => ?_
        refine zA_aload_n dX9_takeClause_106 rfl ?_
        refine zA_getE (w := (m : Int)) fX9_128 t_110 dX9_takeClause_107 (by rw [zup_n (by decide)]; exact hD.2.2.1) ?_
        refine zA_bipush dX9_takeClause_110 rfl ?_
        refine zA_icmp_ne (tgt := 119) dX9_takeClause_112 rfl (fun h112 => ?_) (fun h112 => ?_)
        · refine zA_iconst dX9_takeClause_119 rfl ?_
          refine zA_goto (tgt := 140) dX9_takeClause_120 rfl ?_
          refine zA_istore_n (ls' := [some (zR 110), some (zI (txH x L a)), some (zI 1), some (zI 0), none]) dX9_takeClause_140 rfl rfl ?_
          refine zA_iload_n dX9_takeClause_141 rfl ?_
          refine zA_if_eq (tgt := 155) dX9_takeClause_142 rfl (fun h142 => ?_) (fun h142 => False.elim (by omega))
          refine zA_aload_n dX9_takeClause_155 rfl ?_
          refine zA_dup dX9_takeClause_156 rfl ?_
          refine zA_getE (w := (txS x L a : Int)) fX9_94 t_110 dX9_takeClause_157 (by rw [zup_s]) ?_
          refine zA_iconst dX9_takeClause_160 rfl ?_
          refine zA_iaddB dX9_takeClause_161 ⟨by omega, by omega⟩ ?_
          refine zA_putI wX9_94 t_110 dX9_takeClause_162 ?_
          have hlt := txH_lt (x := x) (L := L) (a := a) (by omega)
          have g0 : h8 μ (zup (zup μ 110 13 (txS x L a : Int)) 110 13 ((txS x L a : Int) + 1)) := h8_up (by decide) (h8.u (by decide))
          have hD0 := hD.h8 g0
          refine zA_iload_n dX9_takeClause_165 rfl ?_
          refine zA_if_ne (tgt := 176) dX9_takeClause_166 rfl (fun h166 => ?_) (fun h166 => False.elim (by omega))
          refine zA_iload_n dX9_takeClause_176 rfl ?_
          refine zA_iconst dX9_takeClause_177 rfl ?_
          refine zA_icmp_ne (tgt := 188) dX9_takeClause_178 rfl (fun h178 => False.elim (by omega)) fun h178 => ?_
          refine zA_aload_n dX9_takeClause_181 rfl ?_
          refine zA_cVi (st := []) kX9_153 t_110 rfl rfl (c_X9_takeCoat (d + 2) (zup (zup μ 110 13 ((txS x L a : Int))) 110 13 (((txS x L a : Int)) + 1)) x L (txS x L a + 1) n m t u g dg ow fi se hlt.1 (g0.mt hT) (by rw [zup_s]; rfl) hD0 w2 (by omega) (by omega)) rfl rfl rfl dX9_takeClause_182 (zfit0 (by omega) rfl) (fun v10 μ10 q10 => ?_)
          obtain ⟨g10, o10, w10⟩ := q10
          refine zA_goto (tgt := 214) dX9_takeClause_185 rfl ?_
          refine zA_dr (ls' := [some (zR 110), none, some (zI 1), some (zI 0), none]) 1 rfl ?_
          refine zA_dr (ls' := [some (zR 110), none, none, some (zI 0), none]) 2 rfl ?_
          refine zA_dr (ls' := [some (zR 110), none, none, none, none]) 3 rfl ?_
          exact t_X9_takeClause d μ μ10 x L _ (txCt x L n (txS x L a + 1)) _ v10 hT (g0.hR.trans g10) (mO_b rfl rfl o10) txCt_rg (txCt_0 hlt.1) (by simp only [txO]; rw [if_neg (by omega), if_neg (by omega), if_pos k18, if_neg (by omega)]; exact txCoat_2) (fun e => by simp only [txQ]; rw [if_neg (by omega), if_pos k18]; exact w10 e)
        · refine zA_iconst dX9_takeClause_115 rfl ?_
          refine zA_goto (tgt := 140) dX9_takeClause_116 rfl ?_
          refine zA_istore_n (ls' := [some (zR 110), some (zI (txH x L a)), some (zI 1), some (zI 1), none]) dX9_takeClause_140 rfl rfl ?_
          refine zA_iload_n dX9_takeClause_141 rfl ?_
          refine zA_if_eq (tgt := 155) dX9_takeClause_142 rfl (fun h142 => False.elim (by omega)) fun h142 => ?_
          refine zA_aload_n dX9_takeClause_145 rfl ?_
          refine zA_iconst dX9_takeClause_146 rfl ?_
          refine zA_aload_n dX9_takeClause_147 rfl ?_
          refine zA_getE (w := (txS x L a : Int)) fX9_94 t_110 dX9_takeClause_148 (by rw [zup_s]) ?_
          refine zA_cVi (st := []) kX9_105 t_110 rfl rfl (c_X9_fails (d + 4) (3) ((txS x L a : Int)) (zup μ 110 13 ((txS x L a : Int)))) rfl rfl rfl dX9_takeClause_151 (zfit0 (by omega) rfl) (fun v11 μ11 q11 => ?_)
          obtain ⟨rfl, rfl⟩ := q11
          exact zA_ri dX9_takeClause_154 ⟨hR_u (by decide) (hR_u (by decide) (hR.refl _)), mO_g (f := 3) (w := txS x L a) (by simp only [txO]; rw [if_neg (by omega), if_neg (by omega), if_pos k18, if_pos (by omega)]) (by decide) rfl (by rw [zup_s]), fun e => absurd e (by decide)⟩
      · refine zA_aload_n dX9_takeClause_72 rfl ?_
        refine zA_iconst dX9_takeClause_73 rfl ?_
        refine zA_aload_n dX9_takeClause_74 rfl ?_
        refine zA_getE (w := (txS x L a : Int)) fX9_94 t_110 dX9_takeClause_75 (by rw [zup_s]) ?_
        refine zA_cVi (st := []) kX9_105 t_110 rfl rfl (c_X9_fails (d + 4) (1) ((txS x L a : Int)) (zup μ 110 13 ((txS x L a : Int)))) rfl rfl rfl dX9_takeClause_78 (zfit0 (by omega) rfl) (fun v12 μ12 q12 => ?_)
        obtain ⟨rfl, rfl⟩ := q12
        exact zA_ri dX9_takeClause_81 ⟨hR_u (by decide) (hR_u (by decide) (hR.refl _)), mO_g (f := 1) (w := txS x L a) (by simp only [txO]; rw [if_neg (by omega), if_pos (by omega)]) (by decide) rfl (by rw [zup_s]), fun e => absurd e (by decide)⟩
  · refine zA_iconst dX9_takeClause_11 rfl ?_
    refine zA_goto (tgt := 56) dX9_takeClause_12 rfl ?_
    refine zA_istore_n (ls' := [some (zR 110), some (zI (txH x L a)), some (zI 0), none, none]) dX9_takeClause_56 rfl rfl ?_
    refine zA_iload_n dX9_takeClause_57 rfl ?_
    refine zA_if_lt (tgt := 72) dX9_takeClause_58 rfl (fun h58 => False.elim (by omega)) fun h58 => ?_
    refine zA_iload_n dX9_takeClause_61 rfl ?_
    refine zA_if_le (tgt := 82) dX9_takeClause_62 rfl (fun h62 => ?_) (fun h62 => False.elim (by omega))
    refine zA_iload_n dX9_takeClause_82 rfl ?_
    refine zA_if_ne (tgt := 101) dX9_takeClause_83 rfl (fun h83 => False.elim (by omega)) fun h83 => ?_
    refine zA_aload_n dX9_takeClause_86 rfl ?_
    refine zA_getE (w := (n : Int)) fX9_118 t_110 dX9_takeClause_87 (by rw [zup_n (by decide)]; exact hD.1) ?_
    refine zA_if_le (tgt := 97) dX9_takeClause_90 rfl (fun h90 => ?_) (fun h90 => ?_)
    · refine zA_iconst dX9_takeClause_97 rfl ?_
      refine zA_goto (tgt := 140) dX9_takeClause_98 rfl ?_
      refine zA_istore_n (ls' := [some (zR 110), some (zI (txH x L a)), some (zI 0), some (zI 0), none]) dX9_takeClause_140 rfl rfl ?_
      refine zA_iload_n dX9_takeClause_141 rfl ?_
      refine zA_if_eq (tgt := 155) dX9_takeClause_142 rfl (fun h142 => ?_) (fun h142 => False.elim (by omega))
      refine zA_aload_n dX9_takeClause_155 rfl ?_
      refine zA_dup dX9_takeClause_156 rfl ?_
      refine zA_getE (w := (txS x L a : Int)) fX9_94 t_110 dX9_takeClause_157 (by rw [zup_s]) ?_
      refine zA_iconst dX9_takeClause_160 rfl ?_
      refine zA_iaddB dX9_takeClause_161 ⟨by omega, by omega⟩ ?_
      refine zA_putI wX9_94 t_110 dX9_takeClause_162 ?_
      have hlt := txH_lt (x := x) (L := L) (a := a) (by omega)
      have g0 : h8 μ (zup (zup μ 110 13 (txS x L a : Int)) 110 13 ((txS x L a : Int) + 1)) := h8_up (by decide) (h8.u (by decide))
      have hD0 := hD.h8 g0
      refine zA_iload_n dX9_takeClause_165 rfl ?_
      refine zA_if_ne (tgt := 176) dX9_takeClause_166 rfl (fun h166 => False.elim (by omega)) fun h166 => ?_
      refine zA_aload_n dX9_takeClause_169 rfl ?_
      refine zA_cVi (st := []) kX9_150 t_110 rfl rfl (c_X9_takeColours (d + 2) (zup (zup μ 110 13 ((txS x L a : Int))) 110 13 (((txS x L a : Int)) + 1)) x L (txS x L a + 1) n m t u g dg ow fi se hlt.1 (g0.mt hT) (by rw [zup_s]; rfl) hD0 (by omega)) rfl rfl rfl dX9_takeClause_170 (zfit0 (by omega) rfl) (fun v13 μ13 q13 => ?_)
      obtain ⟨g13, o13, w13⟩ := q13
      refine zA_goto (tgt := 214) dX9_takeClause_173 rfl ?_
      refine zA_dr (ls' := [some (zR 110), none, some (zI 0), some (zI 0), none]) 1 rfl ?_
      refine zA_dr (ls' := [some (zR 110), none, none, some (zI 0), none]) 2 rfl ?_
      refine zA_dr (ls' := [some (zR 110), none, none, none, none]) 3 rfl ?_
      exact t_X9_takeClause d μ μ13 x L _ (txCo2 x L (txS x L a + 1)) _ v13 hT (g0.hR.trans g13) (mO_b rfl rfl o13) txCo2_rg txCo2_0 (by simp only [txO]; rw [if_pos k8, if_neg (by omega)]; exact txCol_2) (fun e => by simp only [txQ]; rw [if_pos k8]; exact w13 e)
    · refine zA_iconst dX9_takeClause_93 rfl ?_
      refine zA_goto (tgt := 140) dX9_takeClause_94 rfl ?_
      refine zA_istore_n (ls' := [some (zR 110), some (zI (txH x L a)), some (zI 0), some (zI 1), none]) dX9_takeClause_140 rfl rfl ?_
      refine zA_iload_n dX9_takeClause_141 rfl ?_
      refine zA_if_eq (tgt := 155) dX9_takeClause_142 rfl (fun h142 => False.elim (by omega)) fun h142 => ?_
      refine zA_aload_n dX9_takeClause_145 rfl ?_
      refine zA_iconst dX9_takeClause_146 rfl ?_
      refine zA_aload_n dX9_takeClause_147 rfl ?_
      refine zA_getE (w := (txS x L a : Int)) fX9_94 t_110 dX9_takeClause_148 (by rw [zup_s]) ?_
      refine zA_cVi (st := []) kX9_105 t_110 rfl rfl (c_X9_fails (d + 4) (3) ((txS x L a : Int)) (zup μ 110 13 ((txS x L a : Int)))) rfl rfl rfl dX9_takeClause_151 (zfit0 (by omega) rfl) (fun v14 μ14 q14 => ?_)
      obtain ⟨rfl, rfl⟩ := q14
      exact zA_ri dX9_takeClause_154 ⟨hR_u (by decide) (hR_u (by decide) (hR.refl _)), mO_g (f := 3) (w := txS x L a) (by simp only [txO]; rw [if_pos k8, if_pos (by omega)]) (by decide) rfl (by rw [zup_s]), fun e => absurd e (by decide)⟩
theorem c_X9_takeClauseS (d : Nat) (μ : zM) (x : Nat → Int) (L : Nat) : ∀ S : txT, mT μ x L → μ 110 13 = (S.1 : Nat) → mS μ S → txW L S → zMet (d + 6) 0 yX9_takeClause cX9_takeClause 5 (some .int) TF μ [zR 110] (zPi (fun v ν => hR μ ν ∧ mO μ ν v (txO x L S) ∧ (v = 0 → mS ν (txQ x L S))))
  | (a, n, u, m, g, dg, t, ow, fi, se), hT, h5, hD, hW => c_X9_takeClause d μ x L a n m t u g dg ow fi se hT h5 hD hW
