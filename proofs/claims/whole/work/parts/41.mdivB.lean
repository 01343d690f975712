set_option maxHeartbeats 600000 in
set_option maxRecDepth 100000 in
theorem kX2_divide (K : KT) (bd : Nat → Nat) (M : MSt) (X : va_W) (q : Int32) (r : Int32) (x : Int32) (y : Int32) (n : Int32) (hB : HB M) (hA : HA M) : ∀ lau : Launch, Con lau yX2_divide cX2_divide 23 (some .int) 4 106 K (mW K bd M X) (fun _ : Unit => mW K bd ((mDiv M q r x y n).2) X) [.ref (bd 0), .int q, .int r, .int x, .int y, .int n] (some (.int ((mDiv M q r x y n).1))) := by
  refine conI (by decide) (Nat.le_of_ble_eq_true rfl) (fun E C hR => ?_)
  show G E K 0 0 (mW K bd M X) [(0, .ref (bd 0)), (1, .int q), (2, .int r), (3, .int x), (4, .int y), (5, .int n)] 0 []
  refine g_iload_n (i := 1) C dX2_divide_0 rfl rfl ?_
  refine g_callS (av := [.int q]) C dX2_divide_1 ln_X2_119 mf_X2_isSum (kX2_isSum K (mW K bd M X) q) rfl rfl (Nat.le_of_ble_eq_true rfl) ⟨Nat.le_of_ble_eq_true rfl, Nat.le_of_ble_eq_true rfl⟩ ⟨Nat.zero_le _, Nat.zero_le _⟩ (fun _ => ?_)
  refine g_bz_eq (tgt := 47) C dX2_divide_4 (by decide) (fun c4_1 => ?_) (fun c4_1 => ?_)
  · skip
    refine g_iconst (v := (-1)) C dX2_divide_47 (by decide) ?_
    exact hR _ _ _ _ () dX2_divide_48 (by rw [mDiv, c4_1, cond_false] <;> rfl) (by show _ = mW K bd (mDiv M q r x y n).2 X; rw [mDiv, c4_1, cond_false] <;> rfl)
  · skip
    refine g_iload_n (i := 2) C dX2_divide_7 rfl rfl ?_
    refine g_callS (av := [.int r]) C dX2_divide_8 ln_X2_119 mf_X2_isSum (kX2_isSum K (mW K bd M X) r) rfl rfl (Nat.le_of_ble_eq_true rfl) ⟨Nat.le_of_ble_eq_true rfl, Nat.le_of_ble_eq_true rfl⟩ ⟨Nat.zero_le _, Nat.zero_le _⟩ (fun _ => ?_)
    refine g_bz_eq (tgt := 47) C dX2_divide_11 (by decide) (fun c11_2 => ?_) (fun c11_2 => ?_)
    · skip
      refine g_iconst (v := (-1)) C dX2_divide_47 (by decide) ?_
      exact hR _ _ _ _ () dX2_divide_48 (by rw [mDiv, c4_1, cond_true, c11_2, cond_false] <;> rfl) (by show _ = mW K bd (mDiv M q r x y n).2 X; rw [mDiv, c4_1, cond_true, c11_2, cond_false] <;> rfl)
    · skip
      refine g_iload_n (i := 1) C dX2_divide_14 rfl rfl ?_
      refine g_iload_n (i := 2) C dX2_divide_15 rfl rfl ?_
      refine g_icmp_eq (tgt := 47) C dX2_divide_16 (by decide) (fun c16_3 => ?_) (fun c16_3 => ?_)
      · skip
        refine g_iconst (v := (-1)) C dX2_divide_47 (by decide) ?_
        exact hR _ _ _ _ () dX2_divide_48 (by rw [mDiv, c4_1, cond_true, c11_2, cond_true, if_pos c16_3] <;> rfl) (by show _ = mW K bd (mDiv M q r x y n).2 X; rw [mDiv, c4_1, cond_true, c11_2, cond_true, if_pos c16_3] <;> rfl)
      · skip
        refine g_iload_n (i := 3) C dX2_divide_19 rfl rfl ?_
        refine g_callS (av := [.int x]) C dX2_divide_20 ln_X2_119 mf_X2_isSum (kX2_isSum K (mW K bd M X) x) rfl rfl (Nat.le_of_ble_eq_true rfl) ⟨Nat.le_of_ble_eq_true rfl, Nat.le_of_ble_eq_true rfl⟩ ⟨Nat.zero_le _, Nat.zero_le _⟩ (fun _ => ?_)
        refine g_bz_eq (tgt := 47) C dX2_divide_23 (by decide) (fun c23_4 => ?_) (fun c23_4 => ?_)
        · skip
          refine g_iconst (v := (-1)) C dX2_divide_47 (by decide) ?_
          exact hR _ _ _ _ () dX2_divide_48 (by rw [mDiv, c4_1, cond_true, c11_2, cond_true, if_neg c16_3, c23_4, cond_false] <;> rfl) (by show _ = mW K bd (mDiv M q r x y n).2 X; rw [mDiv, c4_1, cond_true, c11_2, cond_true, if_neg c16_3, c23_4, cond_false] <;> rfl)
        · skip
          refine g_iload C dX2_divide_26 rfl ?_
          refine g_callS (av := [.int y]) C dX2_divide_28 ln_X2_119 mf_X2_isSum (kX2_isSum K (mW K bd M X) y) rfl rfl (Nat.le_of_ble_eq_true rfl) ⟨Nat.le_of_ble_eq_true rfl, Nat.le_of_ble_eq_true rfl⟩ ⟨Nat.zero_le _, Nat.zero_le _⟩ (fun _ => ?_)
          refine g_bz_eq (tgt := 47) C dX2_divide_31 (by decide) (fun c31_5 => ?_) (fun c31_5 => ?_)
          · skip
            refine g_iconst (v := (-1)) C dX2_divide_47 (by decide) ?_
            exact hR _ _ _ _ () dX2_divide_48 (by rw [mDiv, c4_1, cond_true, c11_2, cond_true, if_neg c16_3, c23_4, cond_true, c31_5, cond_false] <;> rfl) (by show _ = mW K bd (mDiv M q r x y n).2 X; rw [mDiv, c4_1, cond_true, c11_2, cond_true, if_neg c16_3, c23_4, cond_true, c31_5, cond_false] <;> rfl)
          · skip
            refine g_iload C dX2_divide_34 rfl ?_
            refine g_i2l (v := Int32.toInt64 n) C dX2_divide_36 rfl ?_
            refine g_lconst (v := 1) C dX2_divide_37 (by decide) ?_
            refine g_ldc2 (v := 20) C dX2_divide_38 kc_X2_62 ?_
            refine g_callS (av := [.long (Int32.toInt64 n), .long 1, .long 20]) C dX2_divide_41 ln_X2_32 mf_X2_in (kX2_in K (mW K bd M X) (Int32.toInt64 n) 1 20) rfl rfl (Nat.le_of_ble_eq_true rfl) ⟨Nat.le_of_ble_eq_true rfl, Nat.le_of_ble_eq_true rfl⟩ ⟨Nat.zero_le _, Nat.zero_le _⟩ (fun _ => ?_)
            refine g_bz_ne (tgt := 49) C dX2_divide_44 (by decide) (fun c44_6 => ?_) (fun c44_6 => ?_)
            · skip
              refine g_aload_n (i := 0) C dX2_divide_49 rfl rfl ?_
              refine g_iload C dX2_divide_50 rfl ?_
              refine g_eqi (sm_nI c31_5) ?_
              refine g_callV (av := [.int (nI y.toNatClampNeg)]) C dX2_divide_52 ln_X2_146 mf_X2_greatest 0 rfl rfl (kX2_greatest K bd M X y.toNatClampNeg (Nat.lt_of_lt_of_le (sm_lt c31_5) (by decide))) rfl rfl (Nat.le_of_ble_eq_true rfl) ⟨Nat.le_of_ble_eq_true rfl, Nat.le_of_ble_eq_true rfl⟩ ⟨Nat.zero_le _, Nat.zero_le _⟩ (fun _ => ?_)
              refine g_istore (lv2 := [(0, .ref (bd 0)), (1, .int q), (2, .int r), (3, .int x), (4, .int y), (5, .int n), (6, .int (nI (grM (abM M) y.toNatClampNeg 13) - 7))]) C dX2_divide_55 (by decide) rfl ?_
              refine g_iload C dX2_divide_57 rfl ?_
              refine g_bipush (v := (-6)) C dX2_divide_59 (by decide) ?_
              refine g_icmp_ge (tgt := 67) C dX2_divide_61 (by decide) (fun c61_7 => ?_) (fun c61_7 => ?_)
              · skip
                obtain ⟨g2, eg⟩ := gr_1 c61_7
                have hg2 : g2 < 13 := by have := @gr_le (abM M) y.toNatClampNeg 13; omega
                have eyG : yG M y.toNatClampNeg = g2 := by unfold yG; omega
                have hyy := sm_lt c31_5
                rw [show nI (grM (abM M) y.toNatClampNeg 13) - 7 = nI g2 - 6 from by rw [eg, e_pred]]
                refine g_aload_n (i := 0) C dX2_divide_67 rfl rfl ?_
                refine g_get C dX2_divide_68 fl_X2_23 0 rfl rfl ?_
                refine g_iload C dX2_divide_71 rfl ?_
                refine g_eqi (sm_nI c31_5) ?_
                refine g_iload C dX2_divide_73 rfl ?_
                refine g_callS (av := [.int (nI y.toNatClampNeg), .int ((nI g2) - 6)]) C dX2_divide_75 ln_X2_105 mf_X2_place (kX2_place K (mW K bd M X) (nI y.toNatClampNeg) ((nI g2) - 6)) rfl rfl (Nat.le_of_ble_eq_true rfl) ⟨Nat.le_of_ble_eq_true rfl, Nat.le_of_ble_eq_true rfl⟩ ⟨Nat.zero_le _, Nat.zero_le _⟩ (fun _ => ?_)
                refine g_eqi (pl_nI y.toNatClampNeg g2) ?_
                refine g_lald C dX2_divide_78 3 rfl (vp_in_nI (by omega) (by decide)) ?_
                refine g_eql (congrArg M.2.2.2.2.1 (nI_clamp (by omega))) ?_
                refine g_topl (fun a ea => ?_)
                refine g_lstore (lv2 := [(0, .ref (bd 0)), (1, .int q), (2, .int r), (3, .int x), (4, .int y), (5, .int n), (6, .int ((nI g2) - 6)), (7, .long a)]) C dX2_divide_79 (by decide) rfl ?_
                have ea2 : yA M y.toNatClampNeg = a := by unfold yA; rw [eyG]; exact ea.symm
                have hab := sz_b (a := a) (by rw [ea]; exact gr_ne eg) (by rw [ea]; exact (hA _ (by omega)).1) (by rw [ea]; exact (hA _ (by omega)).2)
                have j96 : G E K 0 0 (mW K bd M X) [(0, .ref (bd 0)), (1, .int q), (2, .int r), (3, .int x), (4, .int y), (5, .int n), (6, .int ((nI g2) - 6)), (7, .long a)] 96 [.long (if 0 ≤ a then a else -a)] := by
                  refine g_lstore (lv2 := [(0, .ref (bd 0)), (1, .int q), (2, .int r), (3, .int x), (4, .int y), (5, .int n), (6, .int ((nI g2) - 6)), (7, .long a), (9, .long (if 0 ≤ a then a else -a))]) C dX2_divide_96 (by decide) rfl ?_
                  refine g_iconst (v := 0) C dX2_divide_98 (by decide) ?_
                  refine g_istore (lv2 := [(0, .ref (bd 0)), (1, .int q), (2, .int r), (3, .int x), (4, .int y), (5, .int n), (6, .int ((nI g2) - 6)), (7, .long a), (9, .long (if 0 ≤ a then a else -a)), (11, .int 0)]) C dX2_divide_99 (by decide) rfl ?_
                  have ls : ∀ (fuel : Nat) (s : Int64) (jj : Nat), 0 < s.toInt → s.toInt < 2 ^ fuel → szL fuel s jj = szL 31 (absD a) 0 → G E K 0 0 (mW K bd M X) [(0, .ref (bd 0)), (1, .int q), (2, .int r), (3, .int x), (4, .int y), (5, .int n), (6, .int ((nI g2) - 6)), (7, .long a), (9, .long s), (11, .int (nI jj))] 101 [] := by
                    intro fuel
                    induction fuel with
                    | zero =>
                      intro s jj hls0 hls1 hls2
                      exact absurd hls1 (by rw [Int.pow_zero]; omega)
                    | succ fuel ihls =>
                      intro s jj hls0 hls1 hls2
                      refine g_lload C dX2_divide_101 rfl ?_
                      refine g_ldc2 (v := 2) C dX2_divide_103 kc_X2_38 ?_
                      refine g_lrem C dX2_divide_106 (by decide) ?_
                      refine g_lconst (v := 0) C dX2_divide_107 (by decide) ?_
                      refine g_lcmp_ne (tgt := 126) C dX2_divide_108 dX2_divide_109 (by decide) (fun c108_8 => ?_) (fun c108_8 => ?_)
                      · skip
                        have hsz : szL 31 (absD a) 0 = (s, jj) := by rw [← hls2, szL, if_neg c108_8]
                        refine g_lload C dX2_divide_126 rfl ?_
                        refine g_lconst (v := 1) C dX2_divide_128 (by decide) ?_
                        refine g_lcmp_eq (tgt := 136) C dX2_divide_129 dX2_divide_130 (by decide) (fun c129_9 => ?_) (fun c129_9 => ?_)
                        · skip
                          clear ihls hls0 hls1 hls2
                          refine g_aload_n (i := 0) C dX2_divide_136 rfl rfl ?_
                          refine g_bipush (v := 8) C dX2_divide_137 (by decide) ?_
                          refine g_iload_n (i := 3) C dX2_divide_139 rfl rfl ?_
                          refine g_eqi (sm_nI c23_4) ?_
                          refine g_callV (av := [.int 8, .int (nI x.toNatClampNeg)]) C dX2_divide_140 ln_X2_128 mf_X2_copies 0 rfl rfl (kX2_copiesF K bd M X 8 x.toNatClampNeg (by decide) (Nat.lt_of_lt_of_le (sm_lt c23_4) (by decide)) (isSm_n8 c23_4)) rfl rfl (Nat.le_of_ble_eq_true rfl) ⟨Nat.le_of_ble_eq_true rfl, Nat.le_of_ble_eq_true rfl⟩ ⟨Nat.zero_le _, Nat.zero_le _⟩ (fun _ => ?_)
                          refine g_aload_n (i := 0) C dX2_divide_143 rfl rfl ?_
                          refine g_bipush (v := 9) C dX2_divide_144 (by decide) ?_
                          refine g_iconst (v := (-1)) C dX2_divide_146 (by decide) ?_
                          refine g_callV (av := [.int 9, .int (-1)]) C dX2_divide_147 ln_X2_128 mf_X2_copies 0 rfl rfl (kX2_copiesN K bd (mCpF M 8 x.toNatClampNeg) X 9 (by decide)) rfl rfl (Nat.le_of_ble_eq_true rfl) ⟨Nat.le_of_ble_eq_true rfl, Nat.le_of_ble_eq_true rfl⟩ ⟨Nat.zero_le _, Nat.zero_le _⟩ (fun _ => ?_)
                          refine g_iconst (v := 0) C dX2_divide_150 (by decide) ?_
                          refine g_istore (lv2 := [(0, .ref (bd 0)), (1, .int q), (2, .int r), (3, .int x), (4, .int y), (5, .int n), (6, .int ((nI g2) - 6)), (7, .long a), (9, .long s), (11, .int (nI jj)), (12, .int 0)]) C dX2_divide_151 (by decide) rfl ?_
                          obtain ⟨m, hm, em⟩ := in120 c44_6
                          have hxx := sm_lt c23_4
                          have hB0 : HB (mCpN (mCpF M 8 x.toNatClampNeg) 9) := HB_cpN (HB_cpF hB (by omega))
                          have lo : ∀ (fuel2 : Nat) (i : Nat) (N : MSt), i ≤ m → m < i + fuel2 → HB N → dvM a y.toNatClampNeg g2 jj (m - i) i N = mDvS M x.toNatClampNeg y.toNatClampNeg m → G E K 0 0 (mW K bd N X) [(0, .ref (bd 0)), (1, .int q), (2, .int r), (4, .int y), (5, .int n), (6, .int ((nI g2) - 6)), (7, .long a), (11, .int (nI jj)), (12, .int (nI i))] 153 [] := by
                            intro fuel2
                            induction fuel2 with
                            | zero =>
                              intro i N hlo0 hlo1 hlo2 hlo3
                              omega
                            | succ fuel2 ihlo =>
                              intro i N hlo0 hlo1 hlo2 hlo3
                              refine g_iload C dX2_divide_153 rfl ?_
                              refine g_iload C dX2_divide_155 rfl ?_
                              refine g_icmp_ge (tgt := 433) C dX2_divide_157 (by decide) (fun c157_10 => ?_) (fun c157_10 => ?_)
                              · skip
                                rw [em] at c157_10
                                have ei : i = m := by have := nle c157_10 (by omega) (by omega); omega
                                refine g_aload_n (i := 0) C dX2_divide_433 rfl rfl ?_
                                refine g_iload_n (i := 1) C dX2_divide_434 rfl rfl ?_
                                refine g_eqi (sm_nI c4_1) ?_
                                refine g_bipush (v := 9) C dX2_divide_435 (by decide) ?_
                                refine g_callV (av := [.int (nI q.toNatClampNeg), .int 9]) C dX2_divide_437 ln_X2_128 mf_X2_copies 0 rfl rfl (kX2_copiesF K bd N X q.toNatClampNeg 9 (Nat.lt_of_lt_of_le (sm_lt c4_1) (by decide)) (by decide) (Ne.symm (isSm_n9 c4_1))) rfl rfl (Nat.le_of_ble_eq_true rfl) ⟨Nat.le_of_ble_eq_true rfl, Nat.le_of_ble_eq_true rfl⟩ ⟨Nat.zero_le _, Nat.zero_le _⟩ (fun _ => ?_)
                                refine g_aload_n (i := 0) C dX2_divide_440 rfl rfl ?_
                                refine g_iload_n (i := 2) C dX2_divide_441 rfl rfl ?_
                                refine g_eqi (sm_nI c11_2) ?_
                                refine g_bipush (v := 8) C dX2_divide_442 (by decide) ?_
                                refine g_callV (av := [.int (nI r.toNatClampNeg), .int 8]) C dX2_divide_444 ln_X2_128 mf_X2_copies 0 rfl rfl (kX2_copiesF K bd (mCpF N q.toNatClampNeg 9) X r.toNatClampNeg 8 (Nat.lt_of_lt_of_le (sm_lt c11_2) (by decide)) (by decide) (Ne.symm (isSm_n8 c11_2))) rfl rfl (Nat.le_of_ble_eq_true rfl) ⟨Nat.le_of_ble_eq_true rfl, Nat.le_of_ble_eq_true rfl⟩ ⟨Nat.zero_le _, Nat.zero_le _⟩ (fun _ => ?_)
                                refine g_iload C dX2_divide_447 rfl ?_
                                exact hR _ _ _ _ () dX2_divide_449 (by subst ei; rw [mDiv, c4_1, cond_true, c11_2, cond_true, if_neg c16_3, c23_4, cond_true, c31_5, cond_true, c44_6, cond_true, if_pos c61_7, ea2, hsz, if_pos c129_9, em, nI_clamp (n := i) (by omega), mDvE, ← hlo3, dvM_0] <;> rfl) (by subst ei; show _ = mW K bd (mDiv M q r x y n).2 X; rw [mDiv, c4_1, cond_true, c11_2, cond_true, if_neg c16_3, c23_4, cond_true, c31_5, cond_true, c44_6, cond_true, if_pos c61_7, ea2, hsz, if_pos c129_9, em, nI_clamp (n := i) (by omega), mDvE, ← hlo3, dvM_0] <;> rfl)
                              · skip
                                rw [em] at c157_10
                                have ei : i < m := nlt c157_10 (by omega) (by omega)
                                refine g_aload_n (i := 0) C dX2_divide_160 rfl rfl ?_
                                refine g_bipush (v := 8) C dX2_divide_161 (by decide) ?_
                                refine g_callV (av := [.int 8]) C dX2_divide_163 ln_X2_146 mf_X2_greatest 0 rfl rfl (kX2_greatest K bd N X 8 (by decide)) rfl rfl (Nat.le_of_ble_eq_true rfl) ⟨Nat.le_of_ble_eq_true rfl, Nat.le_of_ble_eq_true rfl⟩ ⟨Nat.zero_le _, Nat.zero_le _⟩ (fun _ => ?_)
                                refine g_bipush (v := (-6)) C dX2_divide_166 (by decide) ?_
                                refine g_icmp_lt (tgt := 433) C dX2_divide_168 (by decide) (fun c168_11 => ?_) (fun c168_11 => ?_)
                                · skip
                                  refine g_aload_n (i := 0) C dX2_divide_433 rfl rfl ?_
                                  refine g_iload_n (i := 1) C dX2_divide_434 rfl rfl ?_
                                  refine g_eqi (sm_nI c4_1) ?_
                                  refine g_bipush (v := 9) C dX2_divide_435 (by decide) ?_
                                  refine g_callV (av := [.int (nI q.toNatClampNeg), .int 9]) C dX2_divide_437 ln_X2_128 mf_X2_copies 0 rfl rfl (kX2_copiesF K bd N X q.toNatClampNeg 9 (Nat.lt_of_lt_of_le (sm_lt c4_1) (by decide)) (by decide) (Ne.symm (isSm_n9 c4_1))) rfl rfl (Nat.le_of_ble_eq_true rfl) ⟨Nat.le_of_ble_eq_true rfl, Nat.le_of_ble_eq_true rfl⟩ ⟨Nat.zero_le _, Nat.zero_le _⟩ (fun _ => ?_)
                                  refine g_aload_n (i := 0) C dX2_divide_440 rfl rfl ?_
                                  refine g_iload_n (i := 2) C dX2_divide_441 rfl rfl ?_
                                  refine g_eqi (sm_nI c11_2) ?_
                                  refine g_bipush (v := 8) C dX2_divide_442 (by decide) ?_
                                  refine g_callV (av := [.int (nI r.toNatClampNeg), .int 8]) C dX2_divide_444 ln_X2_128 mf_X2_copies 0 rfl rfl (kX2_copiesF K bd (mCpF N q.toNatClampNeg 9) X r.toNatClampNeg 8 (Nat.lt_of_lt_of_le (sm_lt c11_2) (by decide)) (by decide) (Ne.symm (isSm_n8 c11_2))) rfl rfl (Nat.le_of_ble_eq_true rfl) ⟨Nat.le_of_ble_eq_true rfl, Nat.le_of_ble_eq_true rfl⟩ ⟨Nat.zero_le _, Nat.zero_le _⟩ (fun _ => ?_)
                                  refine g_iload C dX2_divide_447 rfl ?_
                                  exact hR _ _ _ _ () dX2_divide_449 (by rw [mDiv, c4_1, cond_true, c11_2, cond_true, if_neg c16_3, c23_4, cond_true, c31_5, cond_true, c44_6, cond_true, if_pos c61_7, ea2, hsz, if_pos c129_9, em, nI_clamp (n := m) (by omega), mDvE, ← hlo3, dvM_s ei, if_pos c168_11] <;> rfl) (by show _ = mW K bd (mDiv M q r x y n).2 X; rw [mDiv, c4_1, cond_true, c11_2, cond_true, if_neg c16_3, c23_4, cond_true, c31_5, cond_true, c44_6, cond_true, if_pos c61_7, ea2, hsz, if_pos c129_9, em, nI_clamp (n := m) (by omega), mDvE, ← hlo3, dvM_s ei, if_pos c168_11] <;> rfl)
                                · skip
                                  obtain ⟨f2, ef⟩ := e_dn c168_11 (by have := @gr_le (abM N) 8 13; omega)
                                  have hf2 : f2 < 13 := by have := @gr_le (abM N) 8 13; omega
                                  have ef2 : grM (abM N) 8 13 - 1 = f2 := by omega
                                  refine g_aload_n (i := 0) C dX2_divide_171 rfl rfl ?_
                                  refine g_bipush (v := 8) C dX2_divide_172 (by decide) ?_
                                  refine g_callV (av := [.int 8]) C dX2_divide_174 ln_X2_146 mf_X2_greatest 0 rfl rfl (kX2_greatest K bd N X 8 (by decide)) rfl rfl (Nat.le_of_ble_eq_true rfl) ⟨Nat.le_of_ble_eq_true rfl, Nat.le_of_ble_eq_true rfl⟩ ⟨Nat.zero_le _, Nat.zero_le _⟩ (fun _ => ?_)
                                  refine g_iload C dX2_divide_177 rfl ?_
                                  refine g_isub C dX2_divide_179 ?_
                                  refine g_bipush (v := (-6)) C dX2_divide_180 (by decide) ?_
                                  refine g_icmp_lt (tgt := 433) C dX2_divide_182 (by decide) (fun c182_12 => ?_) (fun c182_12 => ?_)
                                  · skip
                                    refine g_aload_n (i := 0) C dX2_divide_433 rfl rfl ?_
                                    refine g_iload_n (i := 1) C dX2_divide_434 rfl rfl ?_
                                    refine g_eqi (sm_nI c4_1) ?_
                                    refine g_bipush (v := 9) C dX2_divide_435 (by decide) ?_
                                    refine g_callV (av := [.int (nI q.toNatClampNeg), .int 9]) C dX2_divide_437 ln_X2_128 mf_X2_copies 0 rfl rfl (kX2_copiesF K bd N X q.toNatClampNeg 9 (Nat.lt_of_lt_of_le (sm_lt c4_1) (by decide)) (by decide) (Ne.symm (isSm_n9 c4_1))) rfl rfl (Nat.le_of_ble_eq_true rfl) ⟨Nat.le_of_ble_eq_true rfl, Nat.le_of_ble_eq_true rfl⟩ ⟨Nat.zero_le _, Nat.zero_le _⟩ (fun _ => ?_)
                                    refine g_aload_n (i := 0) C dX2_divide_440 rfl rfl ?_
                                    refine g_iload_n (i := 2) C dX2_divide_441 rfl rfl ?_
                                    refine g_eqi (sm_nI c11_2) ?_
                                    refine g_bipush (v := 8) C dX2_divide_442 (by decide) ?_
                                    refine g_callV (av := [.int (nI r.toNatClampNeg), .int 8]) C dX2_divide_444 ln_X2_128 mf_X2_copies 0 rfl rfl (kX2_copiesF K bd (mCpF N q.toNatClampNeg 9) X r.toNatClampNeg 8 (Nat.lt_of_lt_of_le (sm_lt c11_2) (by decide)) (by decide) (Ne.symm (isSm_n8 c11_2))) rfl rfl (Nat.le_of_ble_eq_true rfl) ⟨Nat.le_of_ble_eq_true rfl, Nat.le_of_ble_eq_true rfl⟩ ⟨Nat.zero_le _, Nat.zero_le _⟩ (fun _ => ?_)
                                    refine g_iload C dX2_divide_447 rfl ?_
                                    exact hR _ _ _ _ () dX2_divide_449 (by rw [mDiv, c4_1, cond_true, c11_2, cond_true, if_neg c16_3, c23_4, cond_true, c31_5, cond_true, c44_6, cond_true, if_pos c61_7, ea2, hsz, if_pos c129_9, em, nI_clamp (n := m) (by omega), mDvE, ← hlo3, dvM_s ei, if_neg c168_11, if_pos c182_12] <;> rfl) (by show _ = mW K bd (mDiv M q r x y n).2 X; rw [mDiv, c4_1, cond_true, c11_2, cond_true, if_neg c16_3, c23_4, cond_true, c31_5, cond_true, c44_6, cond_true, if_pos c61_7, ea2, hsz, if_pos c129_9, em, nI_clamp (n := m) (by omega), mDvE, ← hlo3, dvM_s ei, if_neg c168_11, if_pos c182_12] <;> rfl)
                                  · skip
                                    refine g_aload_n (i := 0) C dX2_divide_185 rfl rfl ?_
                                    refine g_bipush (v := 8) C dX2_divide_186 (by decide) ?_
                                    refine g_callV (av := [.int 8]) C dX2_divide_188 ln_X2_146 mf_X2_greatest 0 rfl rfl (kX2_greatest K bd N X 8 (by decide)) rfl rfl (Nat.le_of_ble_eq_true rfl) ⟨Nat.le_of_ble_eq_true rfl, Nat.le_of_ble_eq_true rfl⟩ ⟨Nat.zero_le _, Nat.zero_le _⟩ (fun _ => ?_)
                                    refine g_eqi (show nI (grM (abM N) 8 13) - 7 = nI f2 - 6 from by rw [ef, e_pred]) ?_
                                    refine g_istore (lv2 := [(0, .ref (bd 0)), (1, .int q), (2, .int r), (4, .int y), (5, .int n), (6, .int ((nI g2) - 6)), (7, .long a), (11, .int (nI jj)), (12, .int (nI i)), (13, .int ((nI f2) - 6))]) C dX2_divide_191 (by decide) rfl ?_
                                    refine g_aload_n (i := 0) C dX2_divide_193 rfl rfl ?_
                                    refine g_get C dX2_divide_194 fl_X2_27 0 rfl rfl ?_
                                    refine g_bipush (v := 8) C dX2_divide_197 (by decide) ?_
                                    refine g_iload C dX2_divide_199 rfl ?_
                                    refine g_callS (av := [.int 8, .int ((nI f2) - 6)]) C dX2_divide_201 ln_X2_105 mf_X2_place (kX2_place K (mW K bd N X) 8 ((nI f2) - 6)) rfl rfl (Nat.le_of_ble_eq_true rfl) ⟨Nat.le_of_ble_eq_true rfl, Nat.le_of_ble_eq_true rfl⟩ ⟨Nat.zero_le _, Nat.zero_le _⟩ (fun _ => ?_)
                                    refine g_eqi (pl_nI 8 f2) ?_
                                    refine g_iald C dX2_divide_204 4 rfl (vp_in_nI (by omega) (by decide)) ?_
                                    refine g_eqi (congrArg N.2.2.2.2.2.1 (nI_clamp (by omega))) ?_
                                    refine g_eqi (HB.c hlo2 (i := 13 * 8 + f2) (by omega)) ?_
                                    refine g_iload C dX2_divide_205 rfl ?_
                                    refine g_iadd C dX2_divide_207 ?_
                                    refine g_aload_n (i := 0) C dX2_divide_208 rfl rfl ?_
                                    refine g_get C dX2_divide_209 fl_X2_27 0 rfl rfl ?_
                                    refine g_iload C dX2_divide_212 rfl ?_
                                    refine g_eqi (sm_nI c31_5) ?_
                                    refine g_iload C dX2_divide_214 rfl ?_
                                    refine g_callS (av := [.int (nI y.toNatClampNeg), .int ((nI g2) - 6)]) C dX2_divide_216 ln_X2_105 mf_X2_place (kX2_place K (mW K bd N X) (nI y.toNatClampNeg) ((nI g2) - 6)) rfl rfl (Nat.le_of_ble_eq_true rfl) ⟨Nat.le_of_ble_eq_true rfl, Nat.le_of_ble_eq_true rfl⟩ ⟨Nat.zero_le _, Nat.zero_le _⟩ (fun _ => ?_)
                                    refine g_eqi (pl_nI y.toNatClampNeg g2) ?_
                                    refine g_iald C dX2_divide_219 4 rfl (vp_in_nI (by omega) (by decide)) ?_
                                    refine g_eqi (congrArg N.2.2.2.2.2.1 (nI_clamp (by omega))) ?_
                                    refine g_eqi (HB.c hlo2 (i := 13 * y.toNatClampNeg + g2) (by omega)) ?_
                                    refine g_isub C dX2_divide_220 ?_
                                    refine g_eqi (show _ = dk N y.toNatClampNeg g2 jj f2 from rfl) ?_
                                    refine g_istore (lv2 := [(0, .ref (bd 0)), (1, .int q), (2, .int r), (4, .int y), (5, .int n), (6, .int ((nI g2) - 6)), (7, .long a), (11, .int (nI jj)), (12, .int (nI i)), (13, .int ((nI f2) - 6)), (14, .int (dk N y.toNatClampNeg g2 jj f2))]) C dX2_divide_221 (by decide) rfl ?_
                                    refine g_aload_n (i := 0) C dX2_divide_223 rfl rfl ?_
                                    refine g_get C dX2_divide_224 fl_X2_23 0 rfl rfl ?_
                                    refine g_bipush (v := 8) C dX2_divide_227 (by decide) ?_
                                    refine g_iload C dX2_divide_229 rfl ?_
                                    refine g_callS (av := [.int 8, .int ((nI f2) - 6)]) C dX2_divide_231 ln_X2_105 mf_X2_place (kX2_place K (mW K bd N X) 8 ((nI f2) - 6)) rfl rfl (Nat.le_of_ble_eq_true rfl) ⟨Nat.le_of_ble_eq_true rfl, Nat.le_of_ble_eq_true rfl⟩ ⟨Nat.zero_le _, Nat.zero_le _⟩ (fun _ => ?_)
                                    refine g_eqi (pl_nI 8 f2) ?_
                                    refine g_lald C dX2_divide_234 3 rfl (vp_in_nI (by omega) (by decide)) ?_
                                    refine g_eql (congrArg N.2.2.2.2.1 (nI_clamp (by omega))) ?_
                                    have j249 : G E K 0 0 (mW K bd N X) [(0, .ref (bd 0)), (1, .int q), (2, .int r), (4, .int y), (5, .int n), (6, .int ((nI g2) - 6)), (7, .long a), (11, .int (nI jj)), (12, .int (nI i)), (13, .int ((nI f2) - 6)), (14, .int (dk N y.toNatClampNeg g2 jj f2))] 249 [.long (if 0 ≤ a then 1 else -1), .long (N.2.2.2.2.1 (13 * 8 + f2))] := by
                                      refine g_lmul C dX2_divide_249 ?_
                                      refine g_eql (show _ = (abM N (13 * 8 + f2) * sgnD a) from rfl) ?_
                                      refine g_lstore (lv2 := [(0, .ref (bd 0)), (1, .int q), (2, .int r), (4, .int y), (5, .int n), (6, .int ((nI g2) - 6)), (7, .long a), (11, .int (nI jj)), (12, .int (nI i)), (13, .int ((nI f2) - 6)), (14, .int (dk N y.toNatClampNeg g2 jj f2)), (15, .long (abM N (13 * 8 + f2) * sgnD a))]) C dX2_divide_250 (by decide) rfl ?_
                                      have j268 : G E K 0 0 (mW K bd N X) [(0, .ref (bd 0)), (1, .int q), (2, .int r), (4, .int y), (5, .int n), (6, .int ((nI g2) - 6)), (7, .long a), (11, .int (nI jj)), (12, .int (nI i)), (13, .int ((nI f2) - 6)), (14, .int (dk N y.toNatClampNeg g2 jj f2)), (15, .long (abM N (13 * 8 + f2) * sgnD a))] 268 [.long (if 0 ≤ (dk N y.toNatClampNeg g2 jj f2) then (abM N (13 * 8 + f2) * sgnD a) else shlL (abM N (13 * 8 + f2) * sgnD a) (-(dk N y.toNatClampNeg g2 jj f2)))] := by
                                        refine g_lstore (lv2 := [(0, .ref (bd 0)), (1, .int q), (2, .int r), (4, .int y), (5, .int n), (6, .int ((nI g2) - 6)), (7, .long a), (11, .int (nI jj)), (12, .int (nI i)), (13, .int ((nI f2) - 6)), (14, .int (dk N y.toNatClampNeg g2 jj f2)), (15, .long (if 0 ≤ (dk N y.toNatClampNeg g2 jj f2) then (abM N (13 * 8 + f2) * sgnD a) else shlL (abM N (13 * 8 + f2) * sgnD a) (-(dk N y.toNatClampNeg g2 jj f2))))]) C dX2_divide_268 (by decide) rfl ?_
                                        refine g_aload_n (i := 0) C dX2_divide_270 rfl rfl ?_
                                        refine g_lload C dX2_divide_271 rfl ?_
                                        refine g_eql (show _ = (rdB N a y.toNatClampNeg g2 jj f2) from rfl) ?_
                                        refine g_topl (fun B0 eB0 => ?_)
                                        have j284 : G E K 0 0 (mW K bd N X) [(0, .ref (bd 0)), (1, .int q), (2, .int r), (4, .int y), (5, .int n), (6, .int ((nI g2) - 6)), (7, .long a), (11, .int (nI jj)), (12, .int (nI i)), (13, .int ((nI f2) - 6)), (14, .int (dk N y.toNatClampNeg g2 jj f2)), (15, .long (if 0 ≤ (dk N y.toNatClampNeg g2 jj f2) then (abM N (13 * 8 + f2) * sgnD a) else shlL (abM N (13 * 8 + f2) * sgnD a) (-(dk N y.toNatClampNeg g2 jj f2))))] 284 [.int (if 0 ≤ (dk N y.toNatClampNeg g2 jj f2) then (dk N y.toNatClampNeg g2 jj f2) else 0), .long B0, .ref (bd 0)] := by
                                          refine g_eqi (show (if 0 ≤ (dk N y.toNatClampNeg g2 jj f2) then (dk N y.toNatClampNeg g2 jj f2) else 0) = nI (rdK N a y.toNatClampNeg g2 jj f2) from dkN_e _) ?_
                                          obtain ⟨k0, ek0⟩ : ∃ k : Nat, k = (rdK N a y.toNatClampNeg g2 jj f2) := ⟨_, rfl⟩
                                          have hk0 : k0 < 2 ^ 31 := by rw [ek0]; exact rdK_lt
                                          have eR : mRnd N a y.toNatClampNeg g2 jj f2 = rndG N B0 k0 y.toNatClampNeg (((nI f2) - 6) - ((nI g2) - 6)) := by rw [mRnd, ← eB0, ← ek0]
                                          rw [← ek0]
                                          refine g_callV (av := [.long B0, .int (nI k0)]) C dX2_divide_284 ln_X2_112 mf_X2_plain 0 rfl rfl (kX2_plain K bd N X B0 k0 hk0) rfl rfl (Nat.le_of_ble_eq_true rfl) ⟨Nat.le_of_ble_eq_true rfl, Nat.le_of_ble_eq_true rfl⟩ ⟨Nat.zero_le _, Nat.zero_le _⟩ (fun _ => ?_)
                                          refine g_istore (lv2 := [(0, .ref (bd 0)), (1, .int q), (2, .int r), (4, .int y), (5, .int n), (6, .int ((nI g2) - 6)), (7, .long a), (11, .int (nI jj)), (12, .int (nI i)), (13, .int ((nI f2) - 6)), (14, .int (dk N y.toNatClampNeg g2 jj f2)), (15, .long (if 0 ≤ (dk N y.toNatClampNeg g2 jj f2) then (abM N (13 * 8 + f2) * sgnD a) else shlL (abM N (13 * 8 + f2) * sgnD a) (-(dk N y.toNatClampNeg g2 jj f2)))), (17, .int (bz (plM B0 k0)))]) C dX2_divide_287 (by decide) rfl ?_
                                          refine g_aload_n (i := 0) C dX2_divide_289 rfl rfl ?_
                                          refine g_get C dX2_divide_290 fl_X2_96 0 rfl rfl ?_
                                          refine g_eql (show _ = (rdM k0 B0).1 from rfl) ?_
                                          refine g_lstore (lv2 := [(0, .ref (bd 0)), (1, .int q), (2, .int r), (4, .int y), (5, .int n), (6, .int ((nI g2) - 6)), (7, .long a), (11, .int (nI jj)), (12, .int (nI i)), (13, .int ((nI f2) - 6)), (14, .int (dk N y.toNatClampNeg g2 jj f2)), (15, .long (if 0 ≤ (dk N y.toNatClampNeg g2 jj f2) then (abM N (13 * 8 + f2) * sgnD a) else shlL (abM N (13 * 8 + f2) * sgnD a) (-(dk N y.toNatClampNeg g2 jj f2)))), (17, .int (bz (plM B0 k0))), (18, .long ((rdM k0 B0).1))]) C dX2_divide_293 (by decide) rfl ?_
                                          refine g_aload_n (i := 0) C dX2_divide_295 rfl rfl ?_
                                          refine g_get C dX2_divide_296 fl_X2_100 0 rfl rfl ?_
                                          refine g_eqi (show _ = nI ((rdM k0 B0).2) from rfl) ?_
                                          refine g_istore (lv2 := [(0, .ref (bd 0)), (1, .int q), (2, .int r), (4, .int y), (5, .int n), (6, .int ((nI g2) - 6)), (7, .long a), (11, .int (nI jj)), (12, .int (nI i)), (13, .int ((nI f2) - 6)), (14, .int (dk N y.toNatClampNeg g2 jj f2)), (15, .long (if 0 ≤ (dk N y.toNatClampNeg g2 jj f2) then (abM N (13 * 8 + f2) * sgnD a) else shlL (abM N (13 * 8 + f2) * sgnD a) (-(dk N y.toNatClampNeg g2 jj f2)))), (17, .int (bz (plM B0 k0))), (18, .long ((rdM k0 B0).1)), (20, .int (nI ((rdM k0 B0).2)))]) C dX2_divide_299 (by decide) rfl ?_
                                          refine g_iload C dX2_divide_301 rfl ?_
                                          refine g_bz_eq (tgt := 328) C dX2_divide_303 (by decide) (fun c303_13 => ?_) (fun c303_13 => ?_)
                                          · skip
                                            refine g_iconst (v := 0) C dX2_divide_328 (by decide) ?_
                                            refine g_istore (lv2 := [(0, .ref (bd 0)), (1, .int q), (2, .int r), (4, .int y), (5, .int n), (6, .int ((nI g2) - 6)), (7, .long a), (11, .int (nI jj)), (12, .int (nI i)), (13, .int ((nI f2) - 6)), (14, .int (dk N y.toNatClampNeg g2 jj f2)), (15, .long (if 0 ≤ (dk N y.toNatClampNeg g2 jj f2) then (abM N (13 * 8 + f2) * sgnD a) else shlL (abM N (13 * 8 + f2) * sgnD a) (-(dk N y.toNatClampNeg g2 jj f2)))), (17, .int 0), (18, .long ((rdM k0 B0).1)), (20, .int (nI ((rdM k0 B0).2)))]) C dX2_divide_329 (by decide) rfl ?_
                                            refine g_bipush (v := 6) C dX2_divide_331 (by decide) ?_
                                            refine g_istore (lv2 := [(0, .ref (bd 0)), (1, .int q), (2, .int r), (4, .int y), (5, .int n), (6, .int ((nI g2) - 6)), (7, .long a), (11, .int (nI jj)), (12, .int (nI i)), (13, .int ((nI f2) - 6)), (14, .int (dk N y.toNatClampNeg g2 jj f2)), (15, .long (if 0 ≤ (dk N y.toNatClampNeg g2 jj f2) then (abM N (13 * 8 + f2) * sgnD a) else shlL (abM N (13 * 8 + f2) * sgnD a) (-(dk N y.toNatClampNeg g2 jj f2)))), (17, .int 0), (18, .long ((rdM k0 B0).1)), (20, .int (nI ((rdM k0 B0).2))), (21, .int 6)]) C dX2_divide_333 (by decide) rfl ?_
                                            refine g_iload C dX2_divide_335 rfl ?_
                                            refine g_bipush (v := (-6)) C dX2_divide_337 (by decide) ?_
                                            refine g_icmp_lt (tgt := 419) C dX2_divide_339 (by decide) (fun q => absurd q (by decide)) (fun _ => ?_)
                                            refine g_iload C dX2_divide_342 rfl ?_
                                            refine g_if_eq (tgt := 419) C dX2_divide_344 (by decide) (fun _ => ?_) (fun q => absurd (by decide) q)
                                            refine g_iload C dX2_divide_419 rfl ?_
                                            refine g_if_ne (tgt := 427) C dX2_divide_421 (by decide) (fun q => absurd q (by decide)) (fun _ => ?_)
                                            refine g_bipush (v := (-5)) C dX2_divide_424 (by decide) ?_
                                            exact hR _ _ _ _ () dX2_divide_426 (by rw [mDiv, c4_1, cond_true, c11_2, cond_true, if_neg c16_3, c23_4, cond_true, c31_5, cond_true, c44_6, cond_true, if_pos c61_7, ea2, hsz, if_pos c129_9, em, nI_clamp (n := m) (by omega), mDvE, ← hlo3, dvM_s ei, if_neg c168_11, if_neg c182_12, ef2, eR, rndG, c303_13, cond_false] <;> rfl) (by show _ = mW K bd (mDiv M q r x y n).2 X; rw [mDiv, c4_1, cond_true, c11_2, cond_true, if_neg c16_3, c23_4, cond_true, c31_5, cond_true, c44_6, cond_true, if_pos c61_7, ea2, hsz, if_pos c129_9, em, nI_clamp (n := m) (by omega), mDvE, ← hlo3, dvM_s ei, if_neg c168_11, if_neg c182_12, ef2, eR, rndG, c303_13, cond_false] <;> rfl)
                                          · skip
                                            refine g_aload_n (i := 0) C dX2_divide_306 rfl rfl ?_
                                            refine g_bipush (v := 9) C dX2_divide_307 (by decide) ?_
                                            refine g_iload C dX2_divide_309 rfl ?_
                                            refine g_iload C dX2_divide_311 rfl ?_
                                            refine g_isub C dX2_divide_313 ?_
                                            refine g_lload C dX2_divide_314 rfl ?_
                                            refine g_iload C dX2_divide_316 rfl ?_
                                            refine g_callV (av := [.int 9, .int (((nI f2) - 6) - ((nI g2) - 6)), .long ((rdM k0 B0).1), .int (nI ((rdM k0 B0).2))]) C dX2_divide_318 ln_X2_115 mf_X2_puts 0 rfl rfl (kX2_puts K bd (mPl N B0 k0) X 9 (((nI f2) - 6) - ((nI g2) - 6)) ((rdM k0 B0).1) ((rdM k0 B0).2) (by decide) (by have := pl_le hk0 c303_13; omega) (HB_pl hlo2)) rfl rfl (Nat.le_of_ble_eq_true rfl) ⟨Nat.le_of_ble_eq_true rfl, Nat.le_of_ble_eq_true rfl⟩ ⟨Nat.zero_le _, Nat.zero_le _⟩ (fun _ => ?_)
                                            refine g_bz_eq (tgt := 328) C dX2_divide_321 (by decide) (fun c321_14 => ?_) (fun c321_14 => ?_)
                                            · skip
                                              refine g_iconst (v := 0) C dX2_divide_328 (by decide) ?_
                                              refine g_istore (lv2 := [(0, .ref (bd 0)), (1, .int q), (2, .int r), (4, .int y), (5, .int n), (6, .int ((nI g2) - 6)), (7, .long a), (11, .int (nI jj)), (12, .int (nI i)), (13, .int ((nI f2) - 6)), (14, .int (dk N y.toNatClampNeg g2 jj f2)), (15, .long (if 0 ≤ (dk N y.toNatClampNeg g2 jj f2) then (abM N (13 * 8 + f2) * sgnD a) else shlL (abM N (13 * 8 + f2) * sgnD a) (-(dk N y.toNatClampNeg g2 jj f2)))), (17, .int 0), (18, .long ((rdM k0 B0).1)), (20, .int (nI ((rdM k0 B0).2)))]) C dX2_divide_329 (by decide) rfl ?_
                                              refine g_bipush (v := 6) C dX2_divide_331 (by decide) ?_
                                              refine g_istore (lv2 := [(0, .ref (bd 0)), (1, .int q), (2, .int r), (4, .int y), (5, .int n), (6, .int ((nI g2) - 6)), (7, .long a), (11, .int (nI jj)), (12, .int (nI i)), (13, .int ((nI f2) - 6)), (14, .int (dk N y.toNatClampNeg g2 jj f2)), (15, .long (if 0 ≤ (dk N y.toNatClampNeg g2 jj f2) then (abM N (13 * 8 + f2) * sgnD a) else shlL (abM N (13 * 8 + f2) * sgnD a) (-(dk N y.toNatClampNeg g2 jj f2)))), (17, .int 0), (18, .long ((rdM k0 B0).1)), (20, .int (nI ((rdM k0 B0).2))), (21, .int 6)]) C dX2_divide_333 (by decide) rfl ?_
                                              refine g_iload C dX2_divide_335 rfl ?_
                                              refine g_bipush (v := (-6)) C dX2_divide_337 (by decide) ?_
                                              refine g_icmp_lt (tgt := 419) C dX2_divide_339 (by decide) (fun q => absurd q (by decide)) (fun _ => ?_)
                                              refine g_iload C dX2_divide_342 rfl ?_
                                              refine g_if_eq (tgt := 419) C dX2_divide_344 (by decide) (fun _ => ?_) (fun q => absurd (by decide) q)
                                              refine g_iload C dX2_divide_419 rfl ?_
                                              refine g_if_ne (tgt := 427) C dX2_divide_421 (by decide) (fun q => absurd q (by decide)) (fun _ => ?_)
                                              refine g_bipush (v := (-5)) C dX2_divide_424 (by decide) ?_
                                              exact hR _ _ _ _ () dX2_divide_426 (by rw [mDiv, c4_1, cond_true, c11_2, cond_true, if_neg c16_3, c23_4, cond_true, c31_5, cond_true, c44_6, cond_true, if_pos c61_7, ea2, hsz, if_pos c129_9, em, nI_clamp (n := m) (by omega), mDvE, ← hlo3, dvM_s ei, if_neg c168_11, if_neg c182_12, ef2, eR, rndG, c303_13, cond_true, rnE, c321_14, cond_false] <;> rfl) (by show _ = mW K bd (mDiv M q r x y n).2 X; rw [mDiv, c4_1, cond_true, c11_2, cond_true, if_neg c16_3, c23_4, cond_true, c31_5, cond_true, c44_6, cond_true, if_pos c61_7, ea2, hsz, if_pos c129_9, em, nI_clamp (n := m) (by omega), mDvE, ← hlo3, dvM_s ei, if_neg c168_11, if_neg c182_12, ef2, eR, rndG, c303_13, cond_true, rnE, c321_14, cond_false] <;> rfl)
                                            · skip
                                              refine g_iconst (v := 1) C dX2_divide_324 (by decide) ?_
                                              refine g_goto (tgt := 329) C dX2_divide_325 (by decide) ?_
                                              refine g_istore (lv2 := [(0, .ref (bd 0)), (1, .int q), (2, .int r), (4, .int y), (5, .int n), (6, .int ((nI g2) - 6)), (7, .long a), (11, .int (nI jj)), (12, .int (nI i)), (13, .int ((nI f2) - 6)), (14, .int (dk N y.toNatClampNeg g2 jj f2)), (15, .long (if 0 ≤ (dk N y.toNatClampNeg g2 jj f2) then (abM N (13 * 8 + f2) * sgnD a) else shlL (abM N (13 * 8 + f2) * sgnD a) (-(dk N y.toNatClampNeg g2 jj f2)))), (17, .int 1), (18, .long ((rdM k0 B0).1)), (20, .int (nI ((rdM k0 B0).2)))]) C dX2_divide_329 (by decide) rfl ?_
                                              refine g_bipush (v := 6) C dX2_divide_331 (by decide) ?_
                                              refine g_istore (lv2 := [(0, .ref (bd 0)), (1, .int q), (2, .int r), (4, .int y), (5, .int n), (6, .int ((nI g2) - 6)), (7, .long a), (11, .int (nI jj)), (12, .int (nI i)), (13, .int ((nI f2) - 6)), (14, .int (dk N y.toNatClampNeg g2 jj f2)), (15, .long (if 0 ≤ (dk N y.toNatClampNeg g2 jj f2) then (abM N (13 * 8 + f2) * sgnD a) else shlL (abM N (13 * 8 + f2) * sgnD a) (-(dk N y.toNatClampNeg g2 jj f2)))), (17, .int 1), (18, .long ((rdM k0 B0).1)), (20, .int (nI ((rdM k0 B0).2))), (21, .int 6)]) C dX2_divide_333 (by decide) rfl ?_
                                              have hB1 : HB (mPut (mPl N B0 k0) 9 (((nI f2) - 6) - ((nI g2) - 6)) (rdM k0 B0).1 ((rdM k0 B0).2)).2 := HB_put (M := mPl N B0 k0) (HB_pl hlo2) (by decide) (by have := pl_le hk0 c303_13; omega)
                                              have lg : ∀ (fuel3 : Nat) (j : Nat) (v : Int32) (b : Bool) (P : MSt), j ≤ 13 → j < fuel3 → HB P → v = nI j - 7 → (bif b then dgL y.toNatClampNeg (rdM k0 B0).1 ((rdM k0 B0).2) (((nI f2) - 6) - ((nI g2) - 6)) j P else (false, P)) = dgL y.toNatClampNeg (rdM k0 B0).1 ((rdM k0 B0).2) (((nI f2) - 6) - ((nI g2) - 6)) 13 (mPut (mPl N B0 k0) 9 (((nI f2) - 6) - ((nI g2) - 6)) (rdM k0 B0).1 ((rdM k0 B0).2)).2 → G E K 0 0 (mW K bd P X) [(0, .ref (bd 0)), (1, .int q), (2, .int r), (4, .int y), (5, .int n), (6, .int ((nI g2) - 6)), (7, .long a), (11, .int (nI jj)), (12, .int (nI i)), (13, .int ((nI f2) - 6)), (17, .int (bz b)), (18, .long ((rdM k0 B0).1)), (20, .int (nI ((rdM k0 B0).2))), (21, .int v)] 335 [] := by
                                                intro fuel3
                                                induction fuel3 with
                                                | zero =>
                                                  intro j v b P hlg0 hlg1 hlg2 hlg3 hlg4
                                                  omega
                                                | succ fuel3 ihlg =>
                                                  intro j v b P hlg0 hlg1 hlg2 hlg3 hlg4
                                                  refine g_iload C dX2_divide_335 rfl ?_
                                                  refine g_bipush (v := (-6)) C dX2_divide_337 (by decide) ?_
                                                  refine g_icmp_lt (tgt := 419) C dX2_divide_339 (by decide) (fun c339_15 => ?_) (fun c339_15 => ?_)
                                                  · skip
                                                    have ej : j = 0 := e_dnx (by rw [← hlg3]; exact c339_15) (by omega)
                                                    subst ej
                                                    have hfin : (b, P) = mRnd N a y.toNatClampNeg g2 jj f2 := by rw [eR, rndG, c303_13, cond_true, rnE, c321_14, cond_true, ← hlg4] <;> cases b <;> rfl
                                                    refine g_iload C dX2_divide_419 rfl ?_
                                                    refine g_bz_ne (tgt := 427) C dX2_divide_421 (by decide) (fun c421_16 => ?_) (fun c421_16 => ?_)
                                                    · skip
                                                      have hres : (mRnd N a y.toNatClampNeg g2 jj (grM (abM N) 8 13 - 1)).2 = P := by rw [ef2, ← hfin]
                                                      have hres2 : (bif (mRnd N a y.toNatClampNeg g2 jj (grM (abM N) 8 13 - 1)).1 then dvM a y.toNatClampNeg g2 jj (m - (i + 1)) (i + 1) (mRnd N a y.toNatClampNeg g2 jj (grM (abM N) 8 13 - 1)).2 else (false, i, (mRnd N a y.toNatClampNeg g2 jj (grM (abM N) 8 13 - 1)).2)) = dvM a y.toNatClampNeg g2 jj (m - (i + 1)) (i + 1) P := by rw [ef2, ← hfin]; show (bif b then _ else _) = _; rw [c421_16] <;> rfl
                                                      refine g_iinc (v := nI (i + 1)) (lv2 := [(0, .ref (bd 0)), (1, .int q), (2, .int r), (4, .int y), (5, .int n), (6, .int ((nI g2) - 6)), (7, .long a), (11, .int (nI jj)), (12, .int (nI (i + 1))), (13, .int ((nI f2) - 6)), (17, .int (bz b)), (18, .long ((rdM k0 B0).1)), (20, .int (nI ((rdM k0 B0).2))), (21, .int v)]) C dX2_divide_427 rfl (nI_inc i) (by decide) rfl ?_
                                                      refine g_goto (tgt := 153) C dX2_divide_430 (by decide) ?_
                                                      exact g_lvs [0, 1, 2, 3, 4, 5, 6, 7, 8] rfl (ihlo (i + 1) _ (by omega) (by omega) (hres ▸ HB_rnd hlo2 (by omega)) (by rw [← hlo3, dvM_s ei, if_neg c168_11, if_neg c182_12, hres2]))
                                                    · skip
                                                      refine g_bipush (v := (-5)) C dX2_divide_424 (by decide) ?_
                                                      exact hR _ _ _ _ () dX2_divide_426 (by rw [mDiv, c4_1, cond_true, c11_2, cond_true, if_neg c16_3, c23_4, cond_true, c31_5, cond_true, c44_6, cond_true, if_pos c61_7, ea2, hsz, if_pos c129_9, em, nI_clamp (n := m) (by omega), mDvE, ← hlo3, dvM_s ei, if_neg c168_11, if_neg c182_12, ef2, ← hfin, show (b, P).1 = b from rfl, c421_16] <;> rfl) (by show _ = mW K bd (mDiv M q r x y n).2 X; rw [mDiv, c4_1, cond_true, c11_2, cond_true, if_neg c16_3, c23_4, cond_true, c31_5, cond_true, c44_6, cond_true, if_pos c61_7, ea2, hsz, if_pos c129_9, em, nI_clamp (n := m) (by omega), mDvE, ← hlo3, dvM_s ei, if_neg c168_11, if_neg c182_12, ef2, ← hfin, show (b, P).1 = b from rfl, c421_16] <;> rfl)
                                                  · skip
                                                    obtain ⟨j2, rfl⟩ := e_dn (j := j) (by rw [← hlg3]; exact c339_15) (by omega)
                                                    rw [e_pred] at hlg3
                                                    subst hlg3
                                                    refine g_iload C dX2_divide_342 rfl ?_
                                                    refine g_bz_eq (tgt := 419) C dX2_divide_344 (by decide) (fun c344_17 => ?_) (fun c344_17 => ?_)
                                                    · skip
                                                      have hfin : (b, P) = mRnd N a y.toNatClampNeg g2 jj f2 := by rw [eR, rndG, c303_13, cond_true, rnE, c321_14, cond_true, ← hlg4, c344_17] <;> rfl
                                                      refine g_iload C dX2_divide_419 rfl ?_
                                                      refine g_bz_ne (tgt := 427) C dX2_divide_421 (by decide) (fun q => absurd (c344_17.symm.trans q) (by decide)) (fun _ => ?_)
                                                      refine g_bipush (v := (-5)) C dX2_divide_424 (by decide) ?_
                                                      exact hR _ _ _ _ () dX2_divide_426 (by rw [mDiv, c4_1, cond_true, c11_2, cond_true, if_neg c16_3, c23_4, cond_true, c31_5, cond_true, c44_6, cond_true, if_pos c61_7, ea2, hsz, if_pos c129_9, em, nI_clamp (n := m) (by omega), mDvE, ← hlo3, dvM_s ei, if_neg c168_11, if_neg c182_12, ef2, ← hfin, show (b, P).1 = b from rfl, c344_17] <;> rfl) (by show _ = mW K bd (mDiv M q r x y n).2 X; rw [mDiv, c4_1, cond_true, c11_2, cond_true, if_neg c16_3, c23_4, cond_true, c31_5, cond_true, c44_6, cond_true, if_pos c61_7, ea2, hsz, if_pos c129_9, em, nI_clamp (n := m) (by omega), mDvE, ← hlo3, dvM_s ei, if_neg c168_11, if_neg c182_12, ef2, ← hfin, show (b, P).1 = b from rfl, c344_17] <;> rfl)
                                                    · skip
                                                      refine g_iload C dX2_divide_347 rfl ?_
                                                      refine g_eqi (sm_nI c31_5) ?_
                                                      refine g_iload C dX2_divide_349 rfl ?_
                                                      refine g_callS (av := [.int (nI y.toNatClampNeg), .int ((nI j2) - 6)]) C dX2_divide_351 ln_X2_105 mf_X2_place (kX2_place K (mW K bd P X) (nI y.toNatClampNeg) ((nI j2) - 6)) rfl rfl (Nat.le_of_ble_eq_true rfl) ⟨Nat.le_of_ble_eq_true rfl, Nat.le_of_ble_eq_true rfl⟩ ⟨Nat.zero_le _, Nat.zero_le _⟩ (fun _ => ?_)
                                                      refine g_eqi (pl_nI y.toNatClampNeg j2) ?_
                                                      refine g_istore (lv2 := [(0, .ref (bd 0)), (1, .int q), (2, .int r), (4, .int y), (5, .int n), (6, .int ((nI g2) - 6)), (7, .long a), (11, .int (nI jj)), (12, .int (nI i)), (13, .int ((nI f2) - 6)), (17, .int (bz b)), (18, .long ((rdM k0 B0).1)), (20, .int (nI ((rdM k0 B0).2))), (21, .int ((nI j2) - 6)), (22, .int (nI (13 * y.toNatClampNeg + j2)))]) C dX2_divide_354 (by decide) rfl ?_
                                                      refine g_aload_n (i := 0) C dX2_divide_356 rfl rfl ?_
                                                      refine g_get C dX2_divide_357 fl_X2_23 0 rfl rfl ?_
                                                      refine g_iload C dX2_divide_360 rfl ?_
                                                      refine g_lald C dX2_divide_362 3 rfl (vp_in_nI (by omega) (by decide)) ?_
                                                      refine g_eql (congrArg P.2.2.2.2.1 (nI_clamp (by omega))) ?_
                                                      refine g_lconst (v := 0) C dX2_divide_363 (by decide) ?_
                                                      refine g_lcmp_eq (tgt := 406) C dX2_divide_364 dX2_divide_365 (by decide) (fun c364_18 => ?_) (fun c364_18 => ?_)
                                                      · skip
                                                        refine g_iconst (v := 1) C dX2_divide_406 (by decide) ?_
                                                        refine g_goto (tgt := 411) C dX2_divide_407 (by decide) ?_
                                                        refine g_istore (lv2 := [(0, .ref (bd 0)), (1, .int q), (2, .int r), (4, .int y), (5, .int n), (6, .int ((nI g2) - 6)), (7, .long a), (11, .int (nI jj)), (12, .int (nI i)), (13, .int ((nI f2) - 6)), (17, .int 1), (18, .long ((rdM k0 B0).1)), (20, .int (nI ((rdM k0 B0).2))), (21, .int ((nI j2) - 6)), (22, .int (nI (13 * y.toNatClampNeg + j2)))]) C dX2_divide_411 (by decide) rfl ?_
                                                        refine g_iinc (v := ((nI j2) - 6) + Int32.ofInt (-1)) (lv2 := [(0, .ref (bd 0)), (1, .int q), (2, .int r), (4, .int y), (5, .int n), (6, .int ((nI g2) - 6)), (7, .long a), (11, .int (nI jj)), (12, .int (nI i)), (13, .int ((nI f2) - 6)), (17, .int 1), (18, .long ((rdM k0 B0).1)), (20, .int (nI ((rdM k0 B0).2))), (21, .int (((nI j2) - 6) + Int32.ofInt (-1))), (22, .int (nI (13 * y.toNatClampNeg + j2)))]) C dX2_divide_413 rfl rfl (by decide) rfl ?_
                                                        refine g_goto (tgt := 335) C dX2_divide_416 (by decide) ?_
                                                        exact g_lvs [0, 1, 2, 3, 4, 5, 6, 7, 8, 9, 10, 11, 12, 13] rfl (ihlg j2 _ true _ (by omega) (by omega) hlg2 (e_dec j2) (by rw [← hlg4, c344_17, cond_true, dgL, if_pos c364_18] <;> rfl))
                                                      · skip
                                                        refine g_aload_n (i := 0) C dX2_divide_368 rfl rfl ?_
                                                        refine g_bipush (v := 8) C dX2_divide_369 (by decide) ?_
                                                        refine g_iload C dX2_divide_371 rfl ?_
                                                        refine g_iload C dX2_divide_373 rfl ?_
                                                        refine g_isub C dX2_divide_375 ?_
                                                        refine g_iload C dX2_divide_376 rfl ?_
                                                        refine g_iadd C dX2_divide_378 ?_
                                                        refine g_lload C dX2_divide_379 rfl ?_
                                                        refine g_iload C dX2_divide_381 rfl ?_
                                                        refine g_aload_n (i := 0) C dX2_divide_383 rfl rfl ?_
                                                        refine g_get C dX2_divide_384 fl_X2_23 0 rfl rfl ?_
                                                        refine g_iload C dX2_divide_387 rfl ?_
                                                        refine g_lald C dX2_divide_389 3 rfl (vp_in_nI (by omega) (by decide)) ?_
                                                        refine g_eql (congrArg P.2.2.2.2.1 (nI_clamp (by omega))) ?_
                                                        refine g_aload_n (i := 0) C dX2_divide_390 rfl rfl ?_
                                                        refine g_get C dX2_divide_391 fl_X2_27 0 rfl rfl ?_
                                                        refine g_iload C dX2_divide_394 rfl ?_
                                                        refine g_iald C dX2_divide_396 4 rfl (vp_in_nI (by omega) (by decide)) ?_
                                                        refine g_eqi (congrArg P.2.2.2.2.2.1 (nI_clamp (by omega))) ?_
                                                        refine g_eqi (HB.c hlg2 (i := 13 * y.toNatClampNeg + j2) (by omega)) ?_
                                                        refine g_ldc2 (v := (-1)) C dX2_divide_397 kc_X2_140 ?_
                                                        refine g_callV (av := [.int 8, .int ((((nI f2) - 6) - ((nI g2) - 6)) + ((nI j2) - 6)), .long ((rdM k0 B0).1), .int (nI ((rdM k0 B0).2)), .long (P.2.2.2.2.1 (13 * y.toNatClampNeg + j2)), .int (nI (bN P (13 * y.toNatClampNeg + j2))), .long (-1)]) C dX2_divide_400 ln_X2_132 mf_X2_multiplies 0 rfl rfl (kX2_multiplies K bd P X 8 ((((nI f2) - 6) - ((nI g2) - 6)) + ((nI j2) - 6)) ((rdM k0 B0).1) ((rdM k0 B0).2) (P.2.2.2.2.1 (13 * y.toNatClampNeg + j2)) (bN P (13 * y.toNatClampNeg + j2)) (-1) (by decide) (by have := HB.bn hlg2 (i := 13 * y.toNatClampNeg + j2) (by omega); have := pl_le hk0 c303_13; omega) hlg2) rfl rfl (Nat.le_of_ble_eq_true rfl) ⟨Nat.le_of_ble_eq_true rfl, Nat.le_of_ble_eq_true rfl⟩ ⟨Nat.zero_le _, Nat.zero_le _⟩ (fun _ => ?_)
                                                        refine g_bz_eq (tgt := 410) C dX2_divide_403 (by decide) (fun c403_19 => ?_) (fun c403_19 => ?_)
                                                        · skip
                                                          refine g_iconst (v := 0) C dX2_divide_410 (by decide) ?_
                                                          refine g_istore (lv2 := [(0, .ref (bd 0)), (1, .int q), (2, .int r), (4, .int y), (5, .int n), (6, .int ((nI g2) - 6)), (7, .long a), (11, .int (nI jj)), (12, .int (nI i)), (13, .int ((nI f2) - 6)), (17, .int 0), (18, .long ((rdM k0 B0).1)), (20, .int (nI ((rdM k0 B0).2))), (21, .int ((nI j2) - 6)), (22, .int (nI (13 * y.toNatClampNeg + j2)))]) C dX2_divide_411 (by decide) rfl ?_
                                                          refine g_iinc (v := ((nI j2) - 6) + Int32.ofInt (-1)) (lv2 := [(0, .ref (bd 0)), (1, .int q), (2, .int r), (4, .int y), (5, .int n), (6, .int ((nI g2) - 6)), (7, .long a), (11, .int (nI jj)), (12, .int (nI i)), (13, .int ((nI f2) - 6)), (17, .int 0), (18, .long ((rdM k0 B0).1)), (20, .int (nI ((rdM k0 B0).2))), (21, .int (((nI j2) - 6) + Int32.ofInt (-1))), (22, .int (nI (13 * y.toNatClampNeg + j2)))]) C dX2_divide_413 rfl rfl (by decide) rfl ?_
                                                          refine g_goto (tgt := 335) C dX2_divide_416 (by decide) ?_
                                                          exact g_lvs [0, 1, 2, 3, 4, 5, 6, 7, 8, 9, 10, 11, 12, 13] rfl (ihlg j2 _ false _ (by omega) (by omega) (HB_mul hlg2 (by decide) (by have := HB.bn hlg2 (i := 13 * y.toNatClampNeg + j2) (by omega); have := pl_le hk0 c303_13; omega)) (e_dec j2) (by rw [← hlg4, c344_17, cond_true, dgL, if_neg c364_18, c403_19, cond_false] <;> rfl))
                                                        · skip
                                                          refine g_iconst (v := 1) C dX2_divide_406 (by decide) ?_
                                                          refine g_goto (tgt := 411) C dX2_divide_407 (by decide) ?_
                                                          refine g_istore (lv2 := [(0, .ref (bd 0)), (1, .int q), (2, .int r), (4, .int y), (5, .int n), (6, .int ((nI g2) - 6)), (7, .long a), (11, .int (nI jj)), (12, .int (nI i)), (13, .int ((nI f2) - 6)), (17, .int 1), (18, .long ((rdM k0 B0).1)), (20, .int (nI ((rdM k0 B0).2))), (21, .int ((nI j2) - 6)), (22, .int (nI (13 * y.toNatClampNeg + j2)))]) C dX2_divide_411 (by decide) rfl ?_
                                                          refine g_iinc (v := ((nI j2) - 6) + Int32.ofInt (-1)) (lv2 := [(0, .ref (bd 0)), (1, .int q), (2, .int r), (4, .int y), (5, .int n), (6, .int ((nI g2) - 6)), (7, .long a), (11, .int (nI jj)), (12, .int (nI i)), (13, .int ((nI f2) - 6)), (17, .int 1), (18, .long ((rdM k0 B0).1)), (20, .int (nI ((rdM k0 B0).2))), (21, .int (((nI j2) - 6) + Int32.ofInt (-1))), (22, .int (nI (13 * y.toNatClampNeg + j2)))]) C dX2_divide_413 rfl rfl (by decide) rfl ?_
                                                          refine g_goto (tgt := 335) C dX2_divide_416 (by decide) ?_
                                                          exact g_lvs [0, 1, 2, 3, 4, 5, 6, 7, 8, 9, 10, 11, 12, 13] rfl (ihlg j2 _ true _ (by omega) (by omega) (HB_mul hlg2 (by decide) (by have := HB.bn hlg2 (i := 13 * y.toNatClampNeg + j2) (by omega); have := pl_le hk0 c303_13; omega)) (e_dec j2) (by rw [← hlg4, c344_17, cond_true, dgL, if_neg c364_18, c403_19, cond_true] <;> rfl))
                                              exact g_lvs [0, 1, 2, 3, 4, 5, 6, 7, 8, 9, 12, 13, 14, 15] rfl (lg 14 13 6 true _ (by omega) (by omega) hB1 rfl (cond_true _ _))
                                        refine g_iload C dX2_divide_273 rfl ?_
                                        refine g_if_ge (tgt := 282) C dX2_divide_275 (by decide) (fun c275_20 => ?_) (fun c275_20 => ?_)
                                        · skip
                                          refine g_iload C dX2_divide_282 rfl ?_
                                          exact g_eqi (by rw [if_pos c275_20]) j284
                                        · skip
                                          refine g_iconst (v := 0) C dX2_divide_278 (by decide) ?_
                                          refine g_goto (tgt := 284) C dX2_divide_279 (by decide) ?_
                                          exact g_eqi (by rw [if_neg c275_20]) j284
                                      refine g_iload C dX2_divide_252 rfl ?_
                                      refine g_if_ge (tgt := 266) C dX2_divide_254 (by decide) (fun c254_21 => ?_) (fun c254_21 => ?_)
                                      · skip
                                        refine g_lload C dX2_divide_266 rfl ?_
                                        exact g_eql (by rw [if_pos c254_21]) j268
                                      · skip
                                        refine g_lload C dX2_divide_257 rfl ?_
                                        refine g_iload C dX2_divide_259 rfl ?_
                                        refine g_ineg C dX2_divide_261 ?_
                                        refine g_lshl (v := shlL (abM N (13 * 8 + f2) * sgnD a) (-(dk N y.toNatClampNeg g2 jj f2))) C dX2_divide_262 rfl ?_
                                        refine g_goto (tgt := 268) C dX2_divide_263 (by decide) ?_
                                        exact g_eql (by rw [if_neg c254_21]) j268
                                    refine g_lload C dX2_divide_235 rfl ?_
                                    refine g_lconst (v := 0) C dX2_divide_237 (by decide) ?_
                                    refine g_lcmp_ge (tgt := 248) C dX2_divide_238 dX2_divide_239 (by decide) (fun c238_22 => ?_) (fun c238_22 => ?_)
                                    · skip
                                      refine g_lconst (v := 1) C dX2_divide_248 (by decide) ?_
                                      exact g_eql (by rw [if_pos c238_22]) j249
                                    · skip
                                      refine g_ldc2 (v := (-1)) C dX2_divide_242 kc_X2_140 ?_
                                      refine g_goto (tgt := 249) C dX2_divide_245 (by decide) ?_
                                      exact g_eql (by rw [if_neg c238_22]) j249
                          exact g_lvs [0, 1, 2, 4, 5, 6, 7, 9, 10] rfl (lo (m + 1) 0 _ (by omega) (by omega) hB0 (by unfold mDvS; rw [ea2, eyG, hsz]; rfl))
                        · skip
                          refine g_bipush (v := (-2)) C dX2_divide_133 (by decide) ?_
                          exact hR _ _ _ _ () dX2_divide_135 (by rw [mDiv, c4_1, cond_true, c11_2, cond_true, if_neg c16_3, c23_4, cond_true, c31_5, cond_true, c44_6, cond_true, if_pos c61_7, ea2, hsz, if_neg c129_9] <;> rfl) (by show _ = mW K bd (mDiv M q r x y n).2 X; rw [mDiv, c4_1, cond_true, c11_2, cond_true, if_neg c16_3, c23_4, cond_true, c31_5, cond_true, c44_6, cond_true, if_pos c61_7, ea2, hsz, if_neg c129_9] <;> rfl)
                      · skip
                        refine g_lload C dX2_divide_112 rfl ?_
                        refine g_ldc2 (v := 2) C dX2_divide_114 kc_X2_38 ?_
                        refine g_ldiv C dX2_divide_117 (by decide) ?_
                        refine g_lstore (lv2 := [(0, .ref (bd 0)), (1, .int q), (2, .int r), (3, .int x), (4, .int y), (5, .int n), (6, .int ((nI g2) - 6)), (7, .long a), (9, .long (s / 2)), (11, .int (nI jj))]) C dX2_divide_118 (by decide) rfl ?_
                        refine g_iinc (v := nI (jj + 1)) (lv2 := [(0, .ref (bd 0)), (1, .int q), (2, .int r), (3, .int x), (4, .int y), (5, .int n), (6, .int ((nI g2) - 6)), (7, .long a), (9, .long (s / 2)), (11, .int (nI (jj + 1)))]) C dX2_divide_120 rfl (nI_inc jj) (by decide) rfl ?_
                        refine g_goto (tgt := 101) C dX2_divide_123 (by decide) ?_
                        exact g_lvs [0, 1, 2, 3, 4, 5, 6, 7, 8, 9] rfl (ihls _ (jj + 1) (sz_h hls0 hls1 c108_8).1 (sz_h hls0 hls1 c108_8).2 (by rw [← hls2, szL, if_pos c108_8]))
                  exact g_lvs [0, 1, 2, 3, 4, 5, 6, 7, 8, 9] rfl (ls 31 _ 0 hab.1 hab.2 rfl)
                have ea2 : yA M y.toNatClampNeg = a := by unfold yA; rw [eyG]; exact ea.symm
                have hab := sz_b (a := a) (by rw [ea]; exact gr_ne eg) (by rw [ea]; exact (hA _ (by omega)).1) (by rw [ea]; exact (hA _ (by omega)).2)
                refine g_lload C dX2_divide_81 rfl ?_
                refine g_lconst (v := 0) C dX2_divide_83 (by decide) ?_
                refine g_lcmp_ge (tgt := 94) C dX2_divide_84 dX2_divide_85 (by decide) (fun c84_23 => ?_) (fun c84_23 => ?_)
                · skip
                  refine g_lload C dX2_divide_94 rfl ?_
                  exact g_eql (by rw [if_pos c84_23]) j96
                · skip
                  refine g_lload C dX2_divide_88 rfl ?_
                  refine g_lneg C dX2_divide_90 ?_
                  refine g_goto (tgt := 96) C dX2_divide_91 (by decide) ?_
                  exact g_eql (by rw [if_neg c84_23]) j96
              · skip
                refine g_bipush (v := (-2)) C dX2_divide_64 (by decide) ?_
                exact hR _ _ _ _ () dX2_divide_66 (by rw [mDiv, c4_1, cond_true, c11_2, cond_true, if_neg c16_3, c23_4, cond_true, c31_5, cond_true, c44_6, cond_true, if_neg c61_7] <;> rfl) (by show _ = mW K bd (mDiv M q r x y n).2 X; rw [mDiv, c4_1, cond_true, c11_2, cond_true, if_neg c16_3, c23_4, cond_true, c31_5, cond_true, c44_6, cond_true, if_neg c61_7] <;> rfl)
            · skip
              refine g_iconst (v := (-1)) C dX2_divide_47 (by decide) ?_
              exact hR _ _ _ _ () dX2_divide_48 (by rw [mDiv, c4_1, cond_true, c11_2, cond_true, if_neg c16_3, c23_4, cond_true, c31_5, cond_true, c44_6, cond_false] <;> rfl) (by show _ = mW K bd (mDiv M q r x y n).2 X; rw [mDiv, c4_1, cond_true, c11_2, cond_true, if_neg c16_3, c23_4, cond_true, c31_5, cond_true, c44_6, cond_false] <;> rfl)
