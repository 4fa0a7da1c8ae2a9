/-! THE LAW: its round is the class's -/
section LM
variable {d q wo dr pt al pa a : Nat} {σ : aS} {Q : aQ} {fpt fal fpa fq ft fdr st b : Nat → Int32}
theorem l_round (hd : q < pt ∧ wo < pt ∧ dr < pt ∧ pt < al ∧ al < pa) (hq : σ.1 q = some (eI 3 fq)) (hq0 : fq 0 = st 16) (hwo : σ.1 wo = some (eI 16 ft)) (hft : ∀ w, w < 16 → ft w = st w) (hdr : σ.1 dr = some (eI 8 fdr)) (hfd : ∀ s, s < 8 → fdr s = st (17 + s)) (hE : eOK st) (ha : a < 6) (hb : bOK b) (hR : AlR fal fpa a b) (K : ∀ fpt' fal' fpa', (∀ j, j < 8 → fpt' j = fpt j + bDl st b j) → AlR fal' fpa' a (bStep st b) → (∀ i, (i < 4 * a ∨ 4 * a + 4 ≤ i) → fal' i = fal i) → (∀ i, (i < 8 * a ∨ 8 * a + 8 ≤ i) → fpa' i = fpa i) → Q none (lA σ pt al pa fpt' fal' fpa')) : aX (d + 2) iL_round 0 [some (.int (nI a)), some (.ref q), some (.ref wo), some (.ref dr), some (.ref pt), some (.ref al), some (.ref pa), none, none, none, none, none] [] (lA σ pt al pa fpt fal fpa) Q := by
  have rq : ∀ f g h, (lA σ pt al pa f g h).1 q = some (eI 3 fq) := fun f g h => (lA_ne (by omega) (by omega) (by omega)).trans hq
  have rwo : ∀ f g h, (lA σ pt al pa f g h).1 wo = some (eI 16 ft) := fun f g h => (lA_ne (by omega) (by omega) (by omega)).trans hwo
  have rdr : ∀ f g h, (lA σ pt al pa f g h).1 dr = some (eI 8 fdr) := fun f g h => (lA_ne (by omega) (by omega) (by omega)).trans hdr
  have rpt : ∀ f g h, (lA σ pt al pa f g h).1 pt = some (eI 8 f) := fun f g h => lA_pt hd.2.2.2
  have ral : ∀ f g h, (lA σ pt al pa f g h).1 al = some (eI 24 g) := fun f g h => lA_al hd.2.2.2
  have rpa : ∀ f g h, (lA σ pt al pa f g h).1 pa = some (eI 48 h) := fun f g h => lA_pa
  have wpt : ∀ f g h k, aput (lA σ pt al pa f g h) pt (eI 8 k) = lA σ pt al pa k g h := fun f g h k => lA_wpt hd.2.2.2
  have wal : ∀ f g h k, aput (lA σ pt al pa f g h) al (eI 24 k) = lA σ pt al pa f k h := fun f g h k => lA_wal hd.2.2.2
  have wpa : ∀ f g h k, aput (lA σ pt al pa f g h) pa (eI 48 k) = lA σ pt al pa f g k := fun f g h k => lA_wpa
  obtain ⟨n, n1, n2, n3, ⟨o, ho, ho8⟩, hh, hsq, hdi, hw, hf, htl⟩ := id hb
  have eN := bOK_N n1 n3
  have f0 : fal (4 * a) = nI o := (hR.1 0 (by omega)).trans ho
  have f1 : fal (4 * a + 1) = nI n := (hR.1 1 (by omega)).trans n1
  have f2 : fal (4 * a + 2) = b 2 := hR.1 2 (by omega)
  have f3 : fal (4 * a + 3) = b 3 := hR.1 3 (by omega)
  by_cases h2 : b 2 = nI 0
  · obtain ⟨t, ht1, ht8⟩ := hsq (n - 1) (by omega)
    have ep : fpa (8 * a + n - 1) = nI (pE b (n - 1)) := by
      rw [show 8 * a + n - 1 = 8 * a + (n - 1) by omega]
      exact hR.2 (n - 1) (by omega)
    have eT : bLi b = t := by unfold bLi; rw [eN, ht1]; exact nIc (by omega)
    have eX : mNx st (bSe b (bN b)) t 8 = bNx st b := by unfold bNx; rw [eT]
    simp (disch := omega) only [sL_round_0, sL_round_0n, sL_round_2, sL_round_3, sL_round_4, sL_round_5, sL_round_6, sL_round_7, sL_round_8, sL_round_10, sL_round_10n, sL_round_12, sL_round_13, sL_round_14, sL_round_15, sL_round_16, sL_round_17, sL_round_18, sL_round_21, sL_round_22, sL_round_22n, sL_round_24, sL_round_26, sL_round_27, sL_round_28, sL_round_30, sL_round_31, sL_round_32, sL_round_33, sL_round_34, sL_round_36, sL_round_37, sL_round_39, sL_round_40, rpa, ral, f1, f2, h2, ep, aFld, aFds, aRow, aRowR, aRefs, aLn, if_true, List.getElem?_cons_zero, List.getElem?_cons_succ, List.set_cons_zero, List.set_cons_succ, List.length_cons, List.length_nil, Option.some.injEq, exists_eq_left', aput_same, aclr_none, aclr_int, aclr_ref, aclr_null, aret_some, aret_none, bz, bz0, bz1, true_and, and_true, vpT, nIc, nI_add, pk_mul, nI_sub', Nat.add_zero, Nat.zero_add, upd_same, upd_ne, if_false, not_true_eq_false, not_false_eq_true, ite_z, ite_o, eq_self, Bool.false_eq_true, nI_leT, nI_leF, nI_ltT, nI_ltF, nI_ne, and_self, false_and, and_false, nI_rem]
    rw [← eN] at ht1 ⊢
    refine l_next_loop (st := st) (rq _ _ _) hq0 (ral _ _ _) (rpa _ _ _) ha hb hR ht1 ht8 _ 8 1 none rfl (Nat.le_refl _) (fun l10 l11 => ?_)
    rw [eX, eN]
    rw [eN] at ht1
    rcases bNx_cases (st := st) hb with hx | ⟨s, hs, hx, hbt, h7, hno⟩
    · -- it ends
      rw [hx, if_pos rfl]
      have hneg : (nI 0 ≤ (-1 : Int32)) = False := eq_false (by decide)
      have hpar : n - 1 - (n - 1) % 2 = (n - 1) / 2 * 2 := by omega
      have hlw := hR.2 ((n - 1) / 2 * 2) (by omega)
      have hlwlt := pE_lt hb (show (n - 1) / 2 * 2 < bN b by omega)
      have hlww := pE_what hb (show (n - 1) / 2 * 2 < bN b by omega)
      have hfw : fpa (8 * a) = nI (pE b 0) := hR.2 0 (by omega)
      have hfwlt := pE_lt hb (show 0 < bN b by omega)
      have hfww : nI (pE b 0 % 5000) = b 5 := pE_what hb (show 0 < bN b by omega)
      have eS : bStep st b = upd b 2 (if mTk st (b 0) = true then nI 1 else nI 2) := by unfold bStep; rw [if_pos h2, if_pos hx]
      have hm : mTk st (nI o) = true ↔ st 16 >>> (nI o &&& 31) &&& nI 1 = nI 1 := by unfold mTk; rw [decide_eq_true_eq]
      have eD : ∀ j, bDl st b j = if st 16 >>> (nI o &&& 31) &&& nI 1 = nI 1 ∧ b (4 + 3 * ((n - 1) / 2 * 2) + 1) = b 5 ∧ 2 < n ∧ j = o then nI 2 else nI 0 := by
        intro j
        unfold bDl bLw bOw
        rw [if_pos h2, if_pos hx, ho, nIc (by omega), eN]
        simp only [hm]
      have hAl : ∀ v, AlR (upd fal (4 * a + 2) v) fpa a (upd b 2 v) := fun v => by
        have eN2 : bN (upd b 2 v) = bN b := by unfold bN; rw [upd_ne (by omega)]
        refine ⟨fun i hi => ?_, fun k hk => ?_⟩
        · by_cases e : i = 2
          · subst e; rw [upd_same, upd_same]
          · rw [upd_ne (by omega), upd_ne (by omega)]; exact hR.1 i hi
        · rw [eN2] at hk
          rw [hR.2 k hk, pE_cong (upd_ne (by omega)) (upd_ne (by omega)) (upd_ne (by omega))]
      have hAlo : ∀ v i, (i < 4 * a ∨ 4 * a + 4 ≤ i) → upd fal (4 * a + 2) v i = fal i := fun v i hi => upd_ne (by omega)
      rw [ho] at eS
      by_cases g1 : st 16 >>> (nI o &&& 31) &&& nI 1 = nI 1
      · rw [if_pos (hm.mpr g1)] at eS
        have a1 := hAl (nI 1)
        rw [← eS] at a1
        by_cases g2 : 2 < n
        · have g2' : (nI n ≤ nI 2) = False := nI_leF g2 (by omega)
          by_cases g3 : b (4 + 3 * ((n - 1) / 2 * 2) + 1) = b 5
          · have hK := K (upd fpt o (fpt o + nI 2)) _ fpa (fun j hj => by
              rw [eD j]
              by_cases e : j = o
              · subst e
                rw [upd_same, if_pos ⟨g1, g3, g2, rfl⟩]
              · rw [upd_ne e, if_neg (fun z => e z.2.2.2), nI_0, Int32.add_zero]) a1 (hAlo _) (fun i _ => rfl)
            simp (disch := omega) only [sL_round_106, sL_round_108, sL_round_111, sL_round_111n, sL_round_112, sL_round_113, sL_round_114, sL_round_114n, sL_round_116, sL_round_117, sL_round_118, sL_round_119, sL_round_120, sL_round_121, sL_round_122, sL_round_123, sL_round_124, sL_round_127, sL_round_128, sL_round_131, sL_round_132, sL_round_134, sL_round_134n, sL_round_136, sL_round_137, sL_round_138, sL_round_139, sL_round_140, sL_round_141, sL_round_143, sL_round_146, sL_round_147, sL_round_150, sL_round_151, sL_round_152, sL_round_152n, sL_round_154, sL_round_156, sL_round_157, sL_round_158, sL_round_160, sL_round_161, sL_round_162, sL_round_164, sL_round_165, sL_round_166, sL_round_167, sL_round_168, sL_round_169, sL_round_170, sL_round_171, sL_round_174, sL_round_176, sL_round_178, sL_round_181, sL_round_183, sL_round_184, sL_round_187, sL_round_189, sL_round_189n, sL_round_191, sL_round_193, sL_round_194, sL_round_195, sL_round_196, sL_round_199, sL_round_202, sL_round_202n, sL_round_204, sL_round_204n, sL_round_206, sL_round_207, sL_round_208, sL_round_209, sL_round_210, sL_round_211, sL_round_212, sL_round_213, sL_round_214, sL_round_215, rq, rpt, ral, rpa, wpt, wal, hq0, f0, hneg, hpar, hlw, l_what, hlww, hfw, hfww, g1, g2', g3, aFld, aFds, aRow, aRowR, aRefs, aLn, if_true, List.getElem?_cons_zero, List.getElem?_cons_succ, List.set_cons_zero, List.set_cons_succ, List.length_cons, List.length_nil, Option.some.injEq, exists_eq_left', aput_same, aclr_none, aclr_int, aclr_ref, aclr_null, aret_some, aret_none, bz, bz0, bz1, true_and, and_true, vpT, nIc, nI_add, pk_mul, nI_sub', Nat.add_zero, Nat.zero_add, upd_same, upd_ne, if_false, not_true_eq_false, not_false_eq_true, ite_z, ite_o, eq_self, Bool.false_eq_true, nI_leT, nI_leF, nI_ltT, nI_ltF, nI_ne, and_self, false_and, and_false, nI_rem]
            exact hK
          · have hK := K fpt _ fpa (fun j hj => by rw [eD j, if_neg (fun z => g3 z.2.1), nI_0, Int32.add_zero]) a1 (hAlo _) (fun i _ => rfl)
            simp (disch := omega) only [sL_round_106, sL_round_108, sL_round_111, sL_round_111n, sL_round_112, sL_round_113, sL_round_114, sL_round_114n, sL_round_116, sL_round_117, sL_round_118, sL_round_119, sL_round_120, sL_round_121, sL_round_122, sL_round_123, sL_round_124, sL_round_127, sL_round_128, sL_round_131, sL_round_132, sL_round_134, sL_round_134n, sL_round_136, sL_round_137, sL_round_138, sL_round_139, sL_round_140, sL_round_141, sL_round_143, sL_round_146, sL_round_147, sL_round_150, sL_round_151, sL_round_152, sL_round_152n, sL_round_154, sL_round_156, sL_round_157, sL_round_158, sL_round_160, sL_round_161, sL_round_162, sL_round_164, sL_round_165, sL_round_166, sL_round_167, sL_round_168, sL_round_169, sL_round_170, sL_round_171, sL_round_174, sL_round_176, sL_round_178, sL_round_181, sL_round_183, sL_round_184, sL_round_187, sL_round_189, sL_round_189n, sL_round_191, sL_round_193, sL_round_194, sL_round_195, sL_round_196, sL_round_199, sL_round_202, sL_round_202n, sL_round_204, sL_round_204n, sL_round_206, sL_round_207, sL_round_208, sL_round_209, sL_round_210, sL_round_211, sL_round_212, sL_round_213, sL_round_214, sL_round_215, rq, rpt, ral, rpa, wpt, wal, hq0, f0, hneg, hpar, hlw, l_what, hlww, hfw, hfww, g1, g2', g3, aFld, aFds, aRow, aRowR, aRefs, aLn, if_true, List.getElem?_cons_zero, List.getElem?_cons_succ, List.set_cons_zero, List.set_cons_succ, List.length_cons, List.length_nil, Option.some.injEq, exists_eq_left', aput_same, aclr_none, aclr_int, aclr_ref, aclr_null, aret_some, aret_none, bz, bz0, bz1, true_and, and_true, vpT, nIc, nI_add, pk_mul, nI_sub', Nat.add_zero, Nat.zero_add, upd_same, upd_ne, if_false, not_true_eq_false, not_false_eq_true, ite_z, ite_o, eq_self, Bool.false_eq_true, nI_leT, nI_leF, nI_ltT, nI_ltF, nI_ne, and_self, false_and, and_false, nI_rem]
            exact hK
        · have g2' : (nI n ≤ nI 2) = True := nI_leT (by omega) (by omega)
          have hK := K fpt _ fpa (fun j hj => by rw [eD j, if_neg (fun z => g2 z.2.2.1), nI_0, Int32.add_zero]) a1 (hAlo _) (fun i _ => rfl)
          simp (disch := omega) only [sL_round_106, sL_round_108, sL_round_111, sL_round_111n, sL_round_112, sL_round_113, sL_round_114, sL_round_114n, sL_round_116, sL_round_117, sL_round_118, sL_round_119, sL_round_120, sL_round_121, sL_round_122, sL_round_123, sL_round_124, sL_round_127, sL_round_128, sL_round_131, sL_round_132, sL_round_134, sL_round_134n, sL_round_136, sL_round_137, sL_round_138, sL_round_139, sL_round_140, sL_round_141, sL_round_143, sL_round_146, sL_round_147, sL_round_150, sL_round_151, sL_round_152, sL_round_152n, sL_round_154, sL_round_156, sL_round_157, sL_round_158, sL_round_160, sL_round_161, sL_round_162, sL_round_164, sL_round_165, sL_round_166, sL_round_167, sL_round_168, sL_round_169, sL_round_170, sL_round_171, sL_round_174, sL_round_176, sL_round_178, sL_round_181, sL_round_183, sL_round_184, sL_round_187, sL_round_189, sL_round_189n, sL_round_191, sL_round_193, sL_round_194, sL_round_195, sL_round_196, sL_round_199, sL_round_202, sL_round_202n, sL_round_204, sL_round_204n, sL_round_206, sL_round_207, sL_round_208, sL_round_209, sL_round_210, sL_round_211, sL_round_212, sL_round_213, sL_round_214, sL_round_215, rq, rpt, ral, rpa, wpt, wal, hq0, f0, hneg, hpar, hlw, l_what, hlww, g1, g2', aFld, aFds, aRow, aRowR, aRefs, aLn, if_true, List.getElem?_cons_zero, List.getElem?_cons_succ, List.set_cons_zero, List.set_cons_succ, List.length_cons, List.length_nil, Option.some.injEq, exists_eq_left', aput_same, aclr_none, aclr_int, aclr_ref, aclr_null, aret_some, aret_none, bz, bz0, bz1, true_and, and_true, vpT, nIc, nI_add, pk_mul, nI_sub', Nat.add_zero, Nat.zero_add, upd_same, upd_ne, if_false, not_true_eq_false, not_false_eq_true, ite_z, ite_o, eq_self, Bool.false_eq_true, nI_leT, nI_leF, nI_ltT, nI_ltF, nI_ne, and_self, false_and, and_false, nI_rem]
          exact hK
      · rw [if_neg (fun z => g1 (hm.mp z))] at eS
        have a1 := hAl (nI 2)
        rw [← eS] at a1
        have hK := K fpt _ fpa (fun j hj => by rw [eD j, if_neg (fun z => g1 z.1), nI_0, Int32.add_zero]) a1 (hAlo _) (fun i _ => rfl)
        simp (disch := omega) only [sL_round_106, sL_round_108, sL_round_111, sL_round_111n, sL_round_112, sL_round_113, sL_round_114, sL_round_114n, sL_round_116, sL_round_117, sL_round_118, sL_round_119, sL_round_120, sL_round_121, sL_round_122, sL_round_123, sL_round_124, sL_round_127, sL_round_128, sL_round_131, sL_round_132, sL_round_134, sL_round_134n, sL_round_136, sL_round_137, sL_round_138, sL_round_139, sL_round_140, sL_round_141, sL_round_143, sL_round_146, sL_round_147, sL_round_150, sL_round_151, sL_round_152, sL_round_152n, sL_round_154, sL_round_156, sL_round_157, sL_round_158, sL_round_160, sL_round_161, sL_round_162, sL_round_164, sL_round_165, sL_round_166, sL_round_167, sL_round_168, sL_round_169, sL_round_170, sL_round_171, sL_round_174, sL_round_176, sL_round_178, sL_round_181, sL_round_183, sL_round_184, sL_round_187, sL_round_189, sL_round_189n, sL_round_191, sL_round_193, sL_round_194, sL_round_195, sL_round_196, sL_round_199, sL_round_202, sL_round_202n, sL_round_204, sL_round_204n, sL_round_206, sL_round_207, sL_round_208, sL_round_209, sL_round_210, sL_round_211, sL_round_212, sL_round_213, sL_round_214, sL_round_215, rq, rpt, ral, rpa, wpt, wal, hq0, f0, hneg, hpar, hlw, l_what, hlww, g1, aFld, aFds, aRow, aRowR, aRefs, aLn, if_true, List.getElem?_cons_zero, List.getElem?_cons_succ, List.set_cons_zero, List.set_cons_succ, List.length_cons, List.length_nil, Option.some.injEq, exists_eq_left', aput_same, aclr_none, aclr_int, aclr_ref, aclr_null, aret_some, aret_none, bz, bz0, bz1, true_and, and_true, vpT, nIc, nI_add, pk_mul, nI_sub', Nat.add_zero, Nat.zero_add, upd_same, upd_ne, if_false, not_true_eq_false, not_false_eq_true, ite_z, ite_o, eq_self, Bool.false_eq_true, nI_leT, nI_leF, nI_ltT, nI_ltF, nI_ne, and_self, false_and, and_false, nI_rem]
        exact hK
    · -- it goes on
      have hx6 : ¬ bNx st b = -6 := by rw [hx, nI_neg6 (by omega)]; exact id
      rw [if_neg hx6, hx]
      rw [eN] at h7
      obtain ⟨v, hv1, hv2, hv3⟩ := bNew_ok hE hb hs
      have eS : bStep st b = bGo b s (nI v) (if b 3 = -6 then nI 0 else nI 1) := by
        unfold bStep
        rw [if_pos h2, if_neg hx6, hx, nIc (by omega), hv1]
      have eD : ∀ j, bDl st b j = if n % 2 = 0 ∧ nI v = b (4 + 3 * (n - 2) + 1) then (if j = t then nI 1 else nI 0) + (if j = s then nI 1 else nI 0) else nI 0 := by
        intro j
        unfold bDl
        rw [if_pos h2, if_neg hx6, hx, nIc (by omega), hv1, eN, eT]
      have hlp := hR.2 (n - 1) (by omega)
      have hlplt := pE_lt hb (show n - 1 < bN b by omega)
      have hlpw := pE_what hb (show n - 1 < bN b by omega)
      have hold : ∀ x, n % 2 = 0 → upd fpa (8 * a + n) x (8 * a + n - 2) = nI (pE b (n - 2)) := fun x e => by
        rw [upd_ne (by omega), show 8 * a + n - 2 = 8 * a + (n - 2) by omega]
        exact hR.2 (n - 2) (by omega)
      have fin : ∀ P tt, tt ≤ 1 → P = 10000 * s + 5000 * tt + v → (if b 3 = -6 then nI 0 else nI 1) = nI tt → ∀ l10 l11, aX (d + 2) iL_round 315 [some (.int (nI a)), some (.ref q), some (.ref wo), some (.ref dr), some (.ref pt), some (.ref al), some (.ref pa), some (.int (nI n)), some (.int (nI (pE b (n - 1)))), some (.int (nI s)), l10, l11] [] (lA σ pt al pa fpt (upd (upd fal (4 * a + 1) (nI (n + 1))) (4 * a + 3) (-6)) (upd fpa (8 * a + n) (nI P))) Q := by
        intro P tt htt hP hfl l10 l11
        rw [l_tail (v := v) hd.2.2.2 ha hb eN h7 n2 ht1 ht8 hs upd_same (by omega) (by omega) (hold _)]
        have a1 := AlR_go (P := P) hb hR (by omega) hs hv2 htt hP
        rw [eN, ← hfl, ← eS] at a1
        have o1 : ∀ i, (i < 4 * a ∨ 4 * a + 4 ≤ i) → upd (upd fal (4 * a + 1) (nI (n + 1))) (4 * a + 3) (-6) i = fal i := fun i hi => by rw [upd_ne (by omega), upd_ne (by omega)]
        have o2 : ∀ i, (i < 8 * a ∨ 8 * a + 8 ≤ i) → upd fpa (8 * a + n) (nI P) i = fpa i := fun i hi => upd_ne (by omega)
        by_cases g : n % 2 = 0 ∧ nI v = b (4 + 3 * (n - 2) + 1)
        · rw [if_pos g]
          refine K _ _ _ (fun j hj => ?_) a1 o1 o2
          rw [eD j, if_pos g]
          unfold lPt
          by_cases js : j = s
          · subst js
            rw [upd_same, if_pos rfl]
            by_cases jt : j = t
            · subst jt
              rw [upd_same, if_pos rfl, Int32.add_assoc]
            · rw [upd_ne jt, if_neg jt, nI_0, Int32.zero_add]
          · rw [upd_ne js, if_neg js]
            by_cases jt : j = t
            · subst jt
              rw [upd_same, if_pos rfl, nI_0, Int32.add_zero]
            · rw [upd_ne jt, if_neg jt, nI_0, Int32.add_zero, Int32.add_zero]
        · rw [if_neg g]
          refine K _ _ _ (fun j hj => ?_) a1 o1 o2
          rw [eD j, if_neg g, nI_0, Int32.add_zero]
      have hnew : b 3 = -6 → bWhat st b s = nI v := fun e => by
        rw [← hv1]
        unfold bNew
        rw [if_pos e]
      have hneg6 : (nI 0 ≤ (-6 : Int32)) = False := eq_false (by decide)
      have hwhat : n % 2 = 1 → ∃ w, w < 16 ∧ b (4 + 3 * (n - 1) + 1) = nI w ∧ ft w &&& fdr s = bWhat st b s := fun e => by
        obtain ⟨w, e1, e2, e3⟩ := hw (n - 1) (by omega)
        refine ⟨w, e3 (by omega), e1, ?_⟩
        unfold bWhat
        rw [eN, if_neg (by omega), e1, nIc (by omega), hft w (e3 (by omega)), hfd s hs]
      have hguess : n % 2 = 0 → ∃ x, x < 4096 ∧ b (4 + 3 * (n - 1) + 1) = nI x ∧ nI (mG ft (nI x) 16) = bWhat st b s := fun e => by
        obtain ⟨x, e1, e2, e3⟩ := hw (n - 1) (by omega)
        refine ⟨x, e2, e1, ?_⟩
        unfold bWhat
        rw [eN, if_pos e, e1, mG_row 16 hft]
      have hftE : ∀ w, w < 16 → ∃ x, ft w = nI x ∧ x < 4096 := fun w hw => by rw [hft w hw]; exact hE.1 w hw
      rcases Nat.mod_two_eq_zero_or_one n with e | e
      · obtain ⟨x, x1, x2, x3⟩ := hguess e
        rw [x2] at hlpw
        have hG := fun (τ : aS) (h : τ.1 wo = some (eI 16 ft)) (Q : aQ) => l_guess (d := d) (Q := Q) h hftE x1
        by_cases gt : b 3 = -6
        · have hF := fin (10000 * s + v) 0 (by omega) (by omega) (if_pos gt) (some (.int (-6))) (some (.int (nI v)))
          simp (disch := omega) only [sL_round_106, sL_round_108, sL_round_216, sL_round_216n, sL_round_218, sL_round_219, sL_round_220, sL_round_221, sL_round_222, sL_round_223, sL_round_224, sL_round_226, sL_round_228, sL_round_229, sL_round_230, sL_round_231, sL_round_234, sL_round_234n, sL_round_235, sL_round_237, sL_round_240, sL_round_241, sL_round_241n, sL_round_242, sL_round_244, sL_round_245, sL_round_246, sL_round_249, sL_round_251, sL_round_254, sL_round_254n, sL_round_255, sL_round_258, sL_round_260, sL_round_260n, sL_round_262, sL_round_264, sL_round_265, sL_round_266, sL_round_268, sL_round_269, sL_round_272, sL_round_274, sL_round_275, sL_round_277, sL_round_280, sL_round_282, sL_round_285, sL_round_288, sL_round_290, sL_round_291, sL_round_292, sL_round_293, sL_round_293n, sL_round_295, sL_round_296, sL_round_297, sL_round_298, sL_round_299, sL_round_300, sL_round_301, sL_round_302, sL_round_303, sL_round_304, sL_round_305, sL_round_305n, sL_round_307, sL_round_308, sL_round_309, sL_round_310, sL_round_311, sL_round_312, sL_round_314, ral, rpa, rwo, wal, wpa, f1, f3, gt, hneg6, l_what, hlpw, hG _ (rwo _ _ _), x3, hnew gt, e, n01, aFld, aFds, aRow, aRowR, aRefs, aLn, if_true, List.getElem?_cons_zero, List.getElem?_cons_succ, List.set_cons_zero, List.set_cons_succ, List.length_cons, List.length_nil, Option.some.injEq, exists_eq_left', aput_same, aclr_none, aclr_int, aclr_ref, aclr_null, aret_some, aret_none, bz, bz0, bz1, true_and, and_true, vpT, nIc, nI_add, pk_mul, nI_sub', Nat.add_zero, Nat.zero_add, upd_same, upd_ne, if_false, not_true_eq_false, not_false_eq_true, ite_z, ite_o, eq_self, Bool.false_eq_true, nI_leT, nI_leF, nI_ltT, nI_ltF, nI_ne, and_self, false_and, and_false, nI_rem]
          exact hF
        · obtain ⟨y, y1, y2, y3⟩ := htl.resolve_left gt
          have hyv : y = v := by
            have := hv1
            unfold bNew at this
            rw [if_neg gt, y1] at this
            exact nI_inj (by omega) (by omega) this
          subst hyv
          have hF := fin (10000 * s + (5000 + y)) 1 (by omega) (by omega) (if_neg gt) (some (.int (nI y))) (some (.int (bWhat st b s)))
          simp (disch := omega) only [sL_round_106, sL_round_108, sL_round_216, sL_round_216n, sL_round_218, sL_round_219, sL_round_220, sL_round_221, sL_round_222, sL_round_223, sL_round_224, sL_round_226, sL_round_228, sL_round_229, sL_round_230, sL_round_231, sL_round_234, sL_round_234n, sL_round_235, sL_round_237, sL_round_240, sL_round_241, sL_round_241n, sL_round_242, sL_round_244, sL_round_245, sL_round_246, sL_round_249, sL_round_251, sL_round_254, sL_round_254n, sL_round_255, sL_round_258, sL_round_260, sL_round_260n, sL_round_262, sL_round_264, sL_round_265, sL_round_266, sL_round_268, sL_round_269, sL_round_272, sL_round_274, sL_round_275, sL_round_277, sL_round_280, sL_round_282, sL_round_285, sL_round_288, sL_round_290, sL_round_291, sL_round_292, sL_round_293, sL_round_293n, sL_round_295, sL_round_296, sL_round_297, sL_round_298, sL_round_299, sL_round_300, sL_round_301, sL_round_302, sL_round_303, sL_round_304, sL_round_305, sL_round_305n, sL_round_307, sL_round_308, sL_round_309, sL_round_310, sL_round_311, sL_round_312, sL_round_314, ral, rpa, rwo, wal, wpa, f1, f3, y1, l_what, hlpw, hG _ (rwo _ _ _), x3, e, n01, aFld, aFds, aRow, aRowR, aRefs, aLn, if_true, List.getElem?_cons_zero, List.getElem?_cons_succ, List.set_cons_zero, List.set_cons_succ, List.length_cons, List.length_nil, Option.some.injEq, exists_eq_left', aput_same, aclr_none, aclr_int, aclr_ref, aclr_null, aret_some, aret_none, bz, bz0, bz1, true_and, and_true, vpT, nIc, nI_add, pk_mul, nI_sub', Nat.add_zero, Nat.zero_add, upd_same, upd_ne, if_false, not_true_eq_false, not_false_eq_true, ite_z, ite_o, eq_self, Bool.false_eq_true, nI_leT, nI_leF, nI_ltT, nI_ltF, nI_ne, and_self, false_and, and_false, nI_rem]
          exact hF
      · obtain ⟨w, w1, w2, w3⟩ := hwhat e
        rw [w2] at hlpw
        by_cases gt : b 3 = -6
        · have hF := fin (10000 * s + v) 0 (by omega) (by omega) (if_pos gt) (some (.int (-6))) (some (.int (nI v)))
          simp (disch := omega) only [sL_round_106, sL_round_108, sL_round_216, sL_round_216n, sL_round_218, sL_round_219, sL_round_220, sL_round_221, sL_round_222, sL_round_223, sL_round_224, sL_round_226, sL_round_228, sL_round_229, sL_round_230, sL_round_231, sL_round_234, sL_round_234n, sL_round_235, sL_round_237, sL_round_240, sL_round_241, sL_round_241n, sL_round_242, sL_round_244, sL_round_245, sL_round_246, sL_round_249, sL_round_251, sL_round_254, sL_round_254n, sL_round_255, sL_round_258, sL_round_260, sL_round_260n, sL_round_262, sL_round_264, sL_round_265, sL_round_266, sL_round_268, sL_round_269, sL_round_272, sL_round_274, sL_round_275, sL_round_277, sL_round_280, sL_round_282, sL_round_285, sL_round_288, sL_round_290, sL_round_291, sL_round_292, sL_round_293, sL_round_293n, sL_round_295, sL_round_296, sL_round_297, sL_round_298, sL_round_299, sL_round_300, sL_round_301, sL_round_302, sL_round_303, sL_round_304, sL_round_305, sL_round_305n, sL_round_307, sL_round_308, sL_round_309, sL_round_310, sL_round_311, sL_round_312, sL_round_314, ral, rpa, rwo, rdr, wal, wpa, f1, f3, gt, hneg6, l_what, hlpw, w3, hnew gt, e, n01, aFld, aFds, aRow, aRowR, aRefs, aLn, if_true, List.getElem?_cons_zero, List.getElem?_cons_succ, List.set_cons_zero, List.set_cons_succ, List.length_cons, List.length_nil, Option.some.injEq, exists_eq_left', aput_same, aclr_none, aclr_int, aclr_ref, aclr_null, aret_some, aret_none, bz, bz0, bz1, true_and, and_true, vpT, nIc, nI_add, pk_mul, nI_sub', Nat.add_zero, Nat.zero_add, upd_same, upd_ne, if_false, not_true_eq_false, not_false_eq_true, ite_z, ite_o, eq_self, Bool.false_eq_true, nI_leT, nI_leF, nI_ltT, nI_ltF, nI_ne, and_self, false_and, and_false, nI_rem]
          exact hF
        · obtain ⟨y, y1, y2, y3⟩ := htl.resolve_left gt
          have hyv : y = v := by
            have := hv1
            unfold bNew at this
            rw [if_neg gt, y1] at this
            exact nI_inj (by omega) (by omega) this
          subst hyv
          have hF := fin (10000 * s + (5000 + y)) 1 (by omega) (by omega) (if_neg gt) (some (.int (nI y))) (some (.int (bWhat st b s)))
          simp (disch := omega) only [sL_round_106, sL_round_108, sL_round_216, sL_round_216n, sL_round_218, sL_round_219, sL_round_220, sL_round_221, sL_round_222, sL_round_223, sL_round_224, sL_round_226, sL_round_228, sL_round_229, sL_round_230, sL_round_231, sL_round_234, sL_round_234n, sL_round_235, sL_round_237, sL_round_240, sL_round_241, sL_round_241n, sL_round_242, sL_round_244, sL_round_245, sL_round_246, sL_round_249, sL_round_251, sL_round_254, sL_round_254n, sL_round_255, sL_round_258, sL_round_260, sL_round_260n, sL_round_262, sL_round_264, sL_round_265, sL_round_266, sL_round_268, sL_round_269, sL_round_272, sL_round_274, sL_round_275, sL_round_277, sL_round_280, sL_round_282, sL_round_285, sL_round_288, sL_round_290, sL_round_291, sL_round_292, sL_round_293, sL_round_293n, sL_round_295, sL_round_296, sL_round_297, sL_round_298, sL_round_299, sL_round_300, sL_round_301, sL_round_302, sL_round_303, sL_round_304, sL_round_305, sL_round_305n, sL_round_307, sL_round_308, sL_round_309, sL_round_310, sL_round_311, sL_round_312, sL_round_314, ral, rpa, rwo, rdr, wal, wpa, f1, f3, y1, l_what, hlpw, w3, e, n01, aFld, aFds, aRow, aRowR, aRefs, aLn, if_true, List.getElem?_cons_zero, List.getElem?_cons_succ, List.set_cons_zero, List.set_cons_succ, List.length_cons, List.length_nil, Option.some.injEq, exists_eq_left', aput_same, aclr_none, aclr_int, aclr_ref, aclr_null, aret_some, aret_none, bz, bz0, bz1, true_and, and_true, vpT, nIc, nI_add, pk_mul, nI_sub', Nat.add_zero, Nat.zero_add, upd_same, upd_ne, if_false, not_true_eq_false, not_false_eq_true, ite_z, ite_o, eq_self, Bool.false_eq_true, nI_leT, nI_leF, nI_ltT, nI_ltF, nI_ne, and_self, false_and, and_false, nI_rem]
          exact hF
  · have hK := K fpt fal fpa (fun j hj => by rw [bDl_done h2, nI_0, Int32.add_zero]) (by rw [bStep_done h2]; exact hR) (fun i _ => rfl) (fun i _ => rfl)
    simp (disch := omega) only [sL_round_0, sL_round_0n, sL_round_2, sL_round_3, sL_round_4, sL_round_5, sL_round_6, sL_round_7, sL_round_8, sL_round_10, sL_round_10n, sL_round_12, sL_round_13, sL_round_14, sL_round_15, sL_round_16, sL_round_17, sL_round_18, sL_round_21, ral, f1, f2, h2, aFld, aFds, aRow, aRowR, aRefs, aLn, if_true, List.getElem?_cons_zero, List.getElem?_cons_succ, List.set_cons_zero, List.set_cons_succ, List.length_cons, List.length_nil, Option.some.injEq, exists_eq_left', aput_same, aclr_none, aclr_int, aclr_ref, aclr_null, aret_some, aret_none, bz, bz0, bz1, true_and, and_true, vpT, nIc, nI_add, pk_mul, nI_sub', Nat.add_zero, Nat.zero_add, upd_same, upd_ne, if_false, not_true_eq_false, not_false_eq_true, ite_z, ite_o, eq_self, Bool.false_eq_true, nI_leT, nI_leF, nI_ltT, nI_ltF, nI_ne, and_self, false_and, and_false, nI_rem]
    exact hK
end LM
