def mM_repW (i : Nat) (pd : Int32) (Q : fM) : fM := if pd = 1 then upd Q (iM (63 + i)) 0 else if upd Q (iM (63 + i)) (Q (iM (63 + i)) + 1) (iM (63 + i)) < upd Q (iM (63 + i)) (Q (iM (63 + i)) + 1) (iM 3) then upd Q (iM (63 + i)) (Q (iM (63 + i)) + 1) else upd (upd (upd (upd Q (iM (63 + i)) (Q (iM (63 + i)) + 1)) (iM (63 + i)) 0) (iM (43 + i)) 1) (iM (73 + i)) (upd (upd (upd Q (iM (63 + i)) (Q (iM (63 + i)) + 1)) (iM (63 + i)) 0) (iM (43 + i)) 1 (iM (73 + i)))
def mM_repU (i : Nat) (pd : Int32) (Q : fM) : fM := if pd = 0 then upd Q (iM (63 + i)) 0 else if upd Q (iM (63 + i)) (Q (iM (63 + i)) + 1) (iM (63 + i)) < upd Q (iM (63 + i)) (Q (iM (63 + i)) + 1) (iM 2) then upd Q (iM (63 + i)) (Q (iM (63 + i)) + 1) else upd (upd (upd (upd Q (iM (63 + i)) (Q (iM (63 + i)) + 1)) (iM (63 + i)) 0) (iM (43 + i)) 0) (iM (73 + i)) (upd (upd (upd Q (iM (63 + i)) (Q (iM (63 + i)) + 1)) (iM (63 + i)) 0) (iM (43 + i)) 0 (iM 1))
def mM_rep (i : Nat) (pd : Int32) (G : fM) : fM := if upd G (iT 0) 0 (iM (43 + i)) = 0 then mM_repW i pd (upd G (iT 0) 0) else mM_repU i pd (upd G (iT 0) 0)
set_option maxHeartbeats 4000000 in
set_option maxRecDepth 100000 in
theorem kX6_report (l : Launch) (D : va_G) (K : Nat → ClassId) (NL : List Nat) (ad : Nat → Nat) (G : fM) (x : fX) (hm : f_EM NL) (cn : Nat) (hc : G (iM 0) = nI cn) (hc10 : cn ≤ 10) (i : Nat) (hi : i < cn) (pd : Int32)  : Kd l yX6_report wsX6_report { frames := 2, cells := 0, slots := 0, locals := 43 } vwCl D K NL ad [.ref (ad 310), .int (nI i), .int pd] G x (some (.int (if mM_rep i pd G (iM (43 + i)) = 0 then 1 else 0))) (mM_rep i pd G) x := by
  refine Kd.of (cc := cX6_report) (maxL := 4) (ret := (some .boolean)) (L := [some (.ref (ad 310)), some (.int (nI i)), some (.int pd), none]) (by decide +kernel) rfl rfl (Nat.le_of_ble_eq_true rfl) ?_
  intro p e s m args below meth c hC hN hr hk hnme
  have iX6 : ∀ w ∈ wsX60, w ∈ wsX6_report := by decide +kernel
  refine fk_aload_n hC dX6_report_0 rfl rfl ?_
  refine fk_aload_n hC dX6_report_1 rfl rfl ?_
  refine fk_iload_n hC dX6_report_2 rfl rfl ?_
  refine fk_callV hC hN (kX6_isServer l D K NL ad _ x hm _) hm.1 (f_E310 _ _ _ _ _) rfl (cwV 1 hC.1.2.2.2.2 gX6_report_X6_isServer rfl rfl rfl (by decide +kernel) ⟨Nat.le_of_ble_eq_true rfl, Nat.le_of_ble_eq_true rfl⟩) rfl rfl (Nat.le_of_ble_eq_true rfl) dX6_report_3 ⟨Nat.zero_le _, Nat.zero_le _⟩ ?_
  refine fk_topi (show _ = (1 : Int32) by rw [hc]; exact inV_t (rng_i (by omega) hi)) ?_
  refine fk_if_eq (tgt := 13) hC dX6_report_6 (by decide) (fun c6 => ?_) (fun c6 => ?_)
  · exact absurd c6 (by decide)
  · refine fk_iconst (v := 0) hC dX6_report_9 (by decide) ?_
    refine fk_goto (tgt := 14) hC dX6_report_10 (by decide) ?_
    refine fk_putM_3 hC hm iX6 (by decide +kernel) dX6_report_14 ?_
    refine fk_aload_n hC dX6_report_17 rfl rfl ?_
    refine fk_getM_3 hC hm iX6 (by decide +kernel) dX6_report_18 ?_
    refine fk_topi pk_us ?_
    refine fk_if_eq (tgt := 26) hC dX6_report_21 (by decide) (fun c21 => ?_) (fun c21 => ?_)
    · refine fk_aload_n hC dX6_report_26 rfl rfl ?_
      refine fk_getM_0 hC hm iX6 (by decide +kernel) dX6_report_27 ?_
      refine fk_bipush (v := 43) hC dX6_report_30 (by decide) ?_
      refine fk_iload_n hC dX6_report_32 rfl rfl ?_
      refine fk_iadd hC dX6_report_33 ?_
      refine fk_ld_at hC (j := 43 + i) hm (nI_add 43 i) (by omega) dX6_report_34 ?_
      refine fk_if_ne (tgt := 42) hC dX6_report_35 (by decide) (fun c35 => ?_) (fun c35 => ?_)
      · refine fk_iconst (v := 0) hC dX6_report_42 (by decide) ?_
        refine fk_istore_n hC dX6_report_43 rfl (by decide) rfl ?_
        refine fk_aload_n hC dX6_report_44 rfl rfl ?_
        refine fk_getM_0 hC hm iX6 (by decide +kernel) dX6_report_45 ?_
        refine fk_bipush (v := 63) hC dX6_report_48 (by decide) ?_
        refine fk_iload_n hC dX6_report_50 rfl rfl ?_
        refine fk_iadd hC dX6_report_51 ?_
        refine fk_iload_n hC dX6_report_52 rfl rfl ?_
        refine fk_iload_n hC dX6_report_53 rfl rfl ?_
        refine fk_icmp_ne (tgt := 61) hC dX6_report_54 (by decide) (fun c54 => ?_) (fun c54 => ?_)
        · refine fk_aload_n hC dX6_report_61 rfl rfl ?_
          refine fk_getM_0 hC hm iX6 (by decide +kernel) dX6_report_62 ?_
          refine fk_bipush (v := 63) hC dX6_report_65 (by decide) ?_
          refine fk_iload_n hC dX6_report_67 rfl rfl ?_
          refine fk_iadd hC dX6_report_68 ?_
          refine fk_ld_at hC (j := 63 + i) hm (nI_add 63 i) (by omega) dX6_report_69 ?_
          refine fk_iconst (v := 1) hC dX6_report_70 (by decide) ?_
          refine fk_iadd hC dX6_report_71 ?_
          refine fk_st_at hC (j := 63 + i) hm (nI_add 63 i) (by omega) dX6_report_72 ?_
          refine fk_iload_n hC dX6_report_73 rfl rfl ?_
          refine fk_iload_n hC dX6_report_74 rfl rfl ?_
          refine fk_icmp_eq (tgt := 168) hC dX6_report_75 (by decide) (fun c75 => ?_) (fun c75 => ?_)
          · exact absurd c75 c54
          · refine fk_aload_n hC dX6_report_78 rfl rfl ?_
            refine fk_getM_0 hC hm iX6 (by decide +kernel) dX6_report_79 ?_
            refine fk_bipush (v := 63) hC dX6_report_82 (by decide) ?_
            refine fk_iload_n hC dX6_report_84 rfl rfl ?_
            refine fk_iadd hC dX6_report_85 ?_
            refine fk_ld_at hC (j := 63 + i) hm (nI_add 63 i) (by omega) dX6_report_86 ?_
            refine fk_iload_n hC dX6_report_87 rfl rfl ?_
            refine fk_if_eq (tgt := 100) hC dX6_report_88 (by decide) (fun c88 => ?_) (fun c88 => ?_)
            · refine fk_aload_n hC dX6_report_100 rfl rfl ?_
              refine fk_getM_0 hC hm iX6 (by decide +kernel) dX6_report_101 ?_
              refine fk_iconst (v := 2) hC dX6_report_104 (by decide) ?_
              refine fk_ld_at hC (j := 2) hm rfl (by omega) dX6_report_105 ?_
              refine fk_icmp_lt (tgt := 168) hC dX6_report_106 (by decide) (fun c106 => ?_) (fun c106 => ?_)
              · refine fk_aload_n hC dX6_report_168 rfl rfl ?_
                refine fk_getM_0 hC hm iX6 (by decide +kernel) dX6_report_169 ?_
                refine fk_bipush (v := 43) hC dX6_report_172 (by decide) ?_
                refine fk_iload_n hC dX6_report_174 rfl rfl ?_
                refine fk_iadd hC dX6_report_175 ?_
                refine fk_ld_at hC (j := 43 + i) hm (nI_add 43 i) (by omega) dX6_report_176 ?_
                refine fk_if_ne (tgt := 184) hC dX6_report_177 (by decide) (fun c177 => ?_) (fun c177 => ?_)
                · refine fk_iconst (v := 0) hC dX6_report_184 (by decide) ?_
                  exact fk_zret hC hr hk dX6_report_185 rfl (by unfold mM_rep; rw [if_neg c35]; unfold mM_repU; rw [if_neg c54, if_pos c106]; rw [if_neg c177]) (by unfold mM_rep; rw [if_neg c35]; unfold mM_repU; rw [if_neg c54, if_pos c106]) rfl
                · refine fk_iconst (v := 1) hC dX6_report_180 (by decide) ?_
                  refine fk_goto (tgt := 185) hC dX6_report_181 (by decide) ?_
                  exact fk_zret hC hr hk dX6_report_185 rfl (by unfold mM_rep; rw [if_neg c35]; unfold mM_repU; rw [if_neg c54, if_pos c106]; rw [if_pos c177]) (by unfold mM_rep; rw [if_neg c35]; unfold mM_repU; rw [if_neg c54, if_pos c106]) rfl
              · refine fk_aload_n hC dX6_report_109 rfl rfl ?_
                refine fk_getM_0 hC hm iX6 (by decide +kernel) dX6_report_110 ?_
                refine fk_bipush (v := 63) hC dX6_report_113 (by decide) ?_
                refine fk_iload_n hC dX6_report_115 rfl rfl ?_
                refine fk_iadd hC dX6_report_116 ?_
                refine fk_iconst (v := 0) hC dX6_report_117 (by decide) ?_
                refine fk_st_at hC (j := 63 + i) hm (nI_add 63 i) (by omega) dX6_report_118 ?_
                refine fk_aload_n hC dX6_report_119 rfl rfl ?_
                refine fk_getM_0 hC hm iX6 (by decide +kernel) dX6_report_120 ?_
                refine fk_bipush (v := 43) hC dX6_report_123 (by decide) ?_
                refine fk_iload_n hC dX6_report_125 rfl rfl ?_
                refine fk_iadd hC dX6_report_126 ?_
                refine fk_iload_n hC dX6_report_127 rfl rfl ?_
                refine fk_if_eq (tgt := 135) hC dX6_report_128 (by decide) (fun c128 => ?_) (fun c128 => ?_)
                · refine fk_iconst (v := 0) hC dX6_report_135 (by decide) ?_
                  refine fk_st_at hC (j := 43 + i) hm (nI_add 43 i) (by omega) dX6_report_136 ?_
                  refine fk_aload_n hC dX6_report_137 rfl rfl ?_
                  refine fk_getM_0 hC hm iX6 (by decide +kernel) dX6_report_138 ?_
                  refine fk_bipush (v := 73) hC dX6_report_141 (by decide) ?_
                  refine fk_iload_n hC dX6_report_143 rfl rfl ?_
                  refine fk_iadd hC dX6_report_144 ?_
                  refine fk_iload_n hC dX6_report_145 rfl rfl ?_
                  refine fk_if_eq (tgt := 161) hC dX6_report_146 (by decide) (fun c146 => ?_) (fun c146 => ?_)
                  · refine fk_aload_n hC dX6_report_161 rfl rfl ?_
                    refine fk_getM_0 hC hm iX6 (by decide +kernel) dX6_report_162 ?_
                    refine fk_iconst (v := 1) hC dX6_report_165 (by decide) ?_
                    refine fk_ld_at hC (j := 1) hm rfl (by omega) dX6_report_166 ?_
                    refine fk_st_at hC (j := 73 + i) hm (nI_add 73 i) (by omega) dX6_report_167 ?_
                    refine fk_aload_n hC dX6_report_168 rfl rfl ?_
                    refine fk_getM_0 hC hm iX6 (by decide +kernel) dX6_report_169 ?_
                    refine fk_bipush (v := 43) hC dX6_report_172 (by decide) ?_
                    refine fk_iload_n hC dX6_report_174 rfl rfl ?_
                    refine fk_iadd hC dX6_report_175 ?_
                    refine fk_ld_at hC (j := 43 + i) hm (nI_add 43 i) (by omega) dX6_report_176 ?_
                    refine fk_if_ne (tgt := 184) hC dX6_report_177 (by decide) (fun c177 => ?_) (fun c177 => ?_)
                    · refine fk_iconst (v := 0) hC dX6_report_184 (by decide) ?_
                      exact fk_zret hC hr hk dX6_report_185 rfl (by unfold mM_rep; rw [if_neg c35]; unfold mM_repU; rw [if_neg c54, if_neg c106]; rw [if_neg c177]) (by unfold mM_rep; rw [if_neg c35]; unfold mM_repU; rw [if_neg c54, if_neg c106]) rfl
                    · refine fk_iconst (v := 1) hC dX6_report_180 (by decide) ?_
                      refine fk_goto (tgt := 185) hC dX6_report_181 (by decide) ?_
                      exact fk_zret hC hr hk dX6_report_185 rfl (by unfold mM_rep; rw [if_neg c35]; unfold mM_repU; rw [if_neg c54, if_neg c106]; rw [if_pos c177]) (by unfold mM_rep; rw [if_neg c35]; unfold mM_repU; rw [if_neg c54, if_neg c106]) rfl
                  · exact absurd c146 (by decide)
                · exact absurd c128 (by decide)
            · exact absurd c88 (by decide)
        · refine fk_iconst (v := 0) hC dX6_report_57 (by decide) ?_
          refine fk_goto (tgt := 72) hC dX6_report_58 (by decide) ?_
          refine fk_st_at hC (j := 63 + i) hm (nI_add 63 i) (by omega) dX6_report_72 ?_
          refine fk_iload_n hC dX6_report_73 rfl rfl ?_
          refine fk_iload_n hC dX6_report_74 rfl rfl ?_
          refine fk_icmp_eq (tgt := 168) hC dX6_report_75 (by decide) (fun c75 => ?_) (fun c75 => ?_)
          · refine fk_aload_n hC dX6_report_168 rfl rfl ?_
            refine fk_getM_0 hC hm iX6 (by decide +kernel) dX6_report_169 ?_
            refine fk_bipush (v := 43) hC dX6_report_172 (by decide) ?_
            refine fk_iload_n hC dX6_report_174 rfl rfl ?_
            refine fk_iadd hC dX6_report_175 ?_
            refine fk_ld_at hC (j := 43 + i) hm (nI_add 43 i) (by omega) dX6_report_176 ?_
            refine fk_if_ne (tgt := 184) hC dX6_report_177 (by decide) (fun c177 => ?_) (fun c177 => ?_)
            · refine fk_iconst (v := 0) hC dX6_report_184 (by decide) ?_
              exact fk_zret hC hr hk dX6_report_185 rfl (by unfold mM_rep; rw [if_neg c35]; unfold mM_repU; rw [if_pos c54]; rw [if_neg c177]) (by unfold mM_rep; rw [if_neg c35]; unfold mM_repU; rw [if_pos c54]) rfl
            · refine fk_iconst (v := 1) hC dX6_report_180 (by decide) ?_
              refine fk_goto (tgt := 185) hC dX6_report_181 (by decide) ?_
              exact fk_zret hC hr hk dX6_report_185 rfl (by unfold mM_rep; rw [if_neg c35]; unfold mM_repU; rw [if_pos c54]; rw [if_pos c177]) (by unfold mM_rep; rw [if_neg c35]; unfold mM_repU; rw [if_pos c54]) rfl
          · exact absurd c54 c75
      · refine fk_iconst (v := 1) hC dX6_report_38 (by decide) ?_
        refine fk_goto (tgt := 43) hC dX6_report_39 (by decide) ?_
        refine fk_istore_n hC dX6_report_43 rfl (by decide) rfl ?_
        refine fk_aload_n hC dX6_report_44 rfl rfl ?_
        refine fk_getM_0 hC hm iX6 (by decide +kernel) dX6_report_45 ?_
        refine fk_bipush (v := 63) hC dX6_report_48 (by decide) ?_
        refine fk_iload_n hC dX6_report_50 rfl rfl ?_
        refine fk_iadd hC dX6_report_51 ?_
        refine fk_iload_n hC dX6_report_52 rfl rfl ?_
        refine fk_iload_n hC dX6_report_53 rfl rfl ?_
        refine fk_icmp_ne (tgt := 61) hC dX6_report_54 (by decide) (fun c54 => ?_) (fun c54 => ?_)
        · refine fk_aload_n hC dX6_report_61 rfl rfl ?_
          refine fk_getM_0 hC hm iX6 (by decide +kernel) dX6_report_62 ?_
          refine fk_bipush (v := 63) hC dX6_report_65 (by decide) ?_
          refine fk_iload_n hC dX6_report_67 rfl rfl ?_
          refine fk_iadd hC dX6_report_68 ?_
          refine fk_ld_at hC (j := 63 + i) hm (nI_add 63 i) (by omega) dX6_report_69 ?_
          refine fk_iconst (v := 1) hC dX6_report_70 (by decide) ?_
          refine fk_iadd hC dX6_report_71 ?_
          refine fk_st_at hC (j := 63 + i) hm (nI_add 63 i) (by omega) dX6_report_72 ?_
          refine fk_iload_n hC dX6_report_73 rfl rfl ?_
          refine fk_iload_n hC dX6_report_74 rfl rfl ?_
          refine fk_icmp_eq (tgt := 168) hC dX6_report_75 (by decide) (fun c75 => ?_) (fun c75 => ?_)
          · exact absurd c75 c54
          · refine fk_aload_n hC dX6_report_78 rfl rfl ?_
            refine fk_getM_0 hC hm iX6 (by decide +kernel) dX6_report_79 ?_
            refine fk_bipush (v := 63) hC dX6_report_82 (by decide) ?_
            refine fk_iload_n hC dX6_report_84 rfl rfl ?_
            refine fk_iadd hC dX6_report_85 ?_
            refine fk_ld_at hC (j := 63 + i) hm (nI_add 63 i) (by omega) dX6_report_86 ?_
            refine fk_iload_n hC dX6_report_87 rfl rfl ?_
            refine fk_if_eq (tgt := 100) hC dX6_report_88 (by decide) (fun c88 => ?_) (fun c88 => ?_)
            · exact absurd c88 (by decide)
            · refine fk_aload_n hC dX6_report_91 rfl rfl ?_
              refine fk_getM_0 hC hm iX6 (by decide +kernel) dX6_report_92 ?_
              refine fk_iconst (v := 3) hC dX6_report_95 (by decide) ?_
              refine fk_ld_at hC (j := 3) hm rfl (by omega) dX6_report_96 ?_
              refine fk_goto (tgt := 106) hC dX6_report_97 (by decide) ?_
              refine fk_icmp_lt (tgt := 168) hC dX6_report_106 (by decide) (fun c106 => ?_) (fun c106 => ?_)
              · refine fk_aload_n hC dX6_report_168 rfl rfl ?_
                refine fk_getM_0 hC hm iX6 (by decide +kernel) dX6_report_169 ?_
                refine fk_bipush (v := 43) hC dX6_report_172 (by decide) ?_
                refine fk_iload_n hC dX6_report_174 rfl rfl ?_
                refine fk_iadd hC dX6_report_175 ?_
                refine fk_ld_at hC (j := 43 + i) hm (nI_add 43 i) (by omega) dX6_report_176 ?_
                refine fk_if_ne (tgt := 184) hC dX6_report_177 (by decide) (fun c177 => ?_) (fun c177 => ?_)
                · refine fk_iconst (v := 0) hC dX6_report_184 (by decide) ?_
                  exact fk_zret hC hr hk dX6_report_185 rfl (by unfold mM_rep; rw [if_pos c35]; unfold mM_repW; rw [if_neg c54, if_pos c106]; rw [if_neg c177]) (by unfold mM_rep; rw [if_pos c35]; unfold mM_repW; rw [if_neg c54, if_pos c106]) rfl
                · refine fk_iconst (v := 1) hC dX6_report_180 (by decide) ?_
                  refine fk_goto (tgt := 185) hC dX6_report_181 (by decide) ?_
                  exact fk_zret hC hr hk dX6_report_185 rfl (by unfold mM_rep; rw [if_pos c35]; unfold mM_repW; rw [if_neg c54, if_pos c106]; rw [if_pos c177]) (by unfold mM_rep; rw [if_pos c35]; unfold mM_repW; rw [if_neg c54, if_pos c106]) rfl
              · refine fk_aload_n hC dX6_report_109 rfl rfl ?_
                refine fk_getM_0 hC hm iX6 (by decide +kernel) dX6_report_110 ?_
                refine fk_bipush (v := 63) hC dX6_report_113 (by decide) ?_
                refine fk_iload_n hC dX6_report_115 rfl rfl ?_
                refine fk_iadd hC dX6_report_116 ?_
                refine fk_iconst (v := 0) hC dX6_report_117 (by decide) ?_
                refine fk_st_at hC (j := 63 + i) hm (nI_add 63 i) (by omega) dX6_report_118 ?_
                refine fk_aload_n hC dX6_report_119 rfl rfl ?_
                refine fk_getM_0 hC hm iX6 (by decide +kernel) dX6_report_120 ?_
                refine fk_bipush (v := 43) hC dX6_report_123 (by decide) ?_
                refine fk_iload_n hC dX6_report_125 rfl rfl ?_
                refine fk_iadd hC dX6_report_126 ?_
                refine fk_iload_n hC dX6_report_127 rfl rfl ?_
                refine fk_if_eq (tgt := 135) hC dX6_report_128 (by decide) (fun c128 => ?_) (fun c128 => ?_)
                · exact absurd c128 (by decide)
                · refine fk_iconst (v := 1) hC dX6_report_131 (by decide) ?_
                  refine fk_goto (tgt := 136) hC dX6_report_132 (by decide) ?_
                  refine fk_st_at hC (j := 43 + i) hm (nI_add 43 i) (by omega) dX6_report_136 ?_
                  refine fk_aload_n hC dX6_report_137 rfl rfl ?_
                  refine fk_getM_0 hC hm iX6 (by decide +kernel) dX6_report_138 ?_
                  refine fk_bipush (v := 73) hC dX6_report_141 (by decide) ?_
                  refine fk_iload_n hC dX6_report_143 rfl rfl ?_
                  refine fk_iadd hC dX6_report_144 ?_
                  refine fk_iload_n hC dX6_report_145 rfl rfl ?_
                  refine fk_if_eq (tgt := 161) hC dX6_report_146 (by decide) (fun c146 => ?_) (fun c146 => ?_)
                  · exact absurd c146 (by decide)
                  · refine fk_aload_n hC dX6_report_149 rfl rfl ?_
                    refine fk_getM_0 hC hm iX6 (by decide +kernel) dX6_report_150 ?_
                    refine fk_bipush (v := 73) hC dX6_report_153 (by decide) ?_
                    refine fk_iload_n hC dX6_report_155 rfl rfl ?_
                    refine fk_iadd hC dX6_report_156 ?_
                    refine fk_ld_at hC (j := 73 + i) hm (nI_add 73 i) (by omega) dX6_report_157 ?_
                    refine fk_goto (tgt := 167) hC dX6_report_158 (by decide) ?_
                    refine fk_st_at hC (j := 73 + i) hm (nI_add 73 i) (by omega) dX6_report_167 ?_
                    refine fk_aload_n hC dX6_report_168 rfl rfl ?_
                    refine fk_getM_0 hC hm iX6 (by decide +kernel) dX6_report_169 ?_
                    refine fk_bipush (v := 43) hC dX6_report_172 (by decide) ?_
                    refine fk_iload_n hC dX6_report_174 rfl rfl ?_
                    refine fk_iadd hC dX6_report_175 ?_
                    refine fk_ld_at hC (j := 43 + i) hm (nI_add 43 i) (by omega) dX6_report_176 ?_
                    refine fk_if_ne (tgt := 184) hC dX6_report_177 (by decide) (fun c177 => ?_) (fun c177 => ?_)
                    · refine fk_iconst (v := 0) hC dX6_report_184 (by decide) ?_
                      exact fk_zret hC hr hk dX6_report_185 rfl (by unfold mM_rep; rw [if_pos c35]; unfold mM_repW; rw [if_neg c54, if_neg c106]; rw [if_neg c177]) (by unfold mM_rep; rw [if_pos c35]; unfold mM_repW; rw [if_neg c54, if_neg c106]) rfl
                    · refine fk_iconst (v := 1) hC dX6_report_180 (by decide) ?_
                      refine fk_goto (tgt := 185) hC dX6_report_181 (by decide) ?_
                      exact fk_zret hC hr hk dX6_report_185 rfl (by unfold mM_rep; rw [if_pos c35]; unfold mM_repW; rw [if_neg c54, if_neg c106]; rw [if_pos c177]) (by unfold mM_rep; rw [if_pos c35]; unfold mM_repW; rw [if_neg c54, if_neg c106]) rfl
        · refine fk_iconst (v := 0) hC dX6_report_57 (by decide) ?_
          refine fk_goto (tgt := 72) hC dX6_report_58 (by decide) ?_
          refine fk_st_at hC (j := 63 + i) hm (nI_add 63 i) (by omega) dX6_report_72 ?_
          refine fk_iload_n hC dX6_report_73 rfl rfl ?_
          refine fk_iload_n hC dX6_report_74 rfl rfl ?_
          refine fk_icmp_eq (tgt := 168) hC dX6_report_75 (by decide) (fun c75 => ?_) (fun c75 => ?_)
          · refine fk_aload_n hC dX6_report_168 rfl rfl ?_
            refine fk_getM_0 hC hm iX6 (by decide +kernel) dX6_report_169 ?_
            refine fk_bipush (v := 43) hC dX6_report_172 (by decide) ?_
            refine fk_iload_n hC dX6_report_174 rfl rfl ?_
            refine fk_iadd hC dX6_report_175 ?_
            refine fk_ld_at hC (j := 43 + i) hm (nI_add 43 i) (by omega) dX6_report_176 ?_
            refine fk_if_ne (tgt := 184) hC dX6_report_177 (by decide) (fun c177 => ?_) (fun c177 => ?_)
            · refine fk_iconst (v := 0) hC dX6_report_184 (by decide) ?_
              exact fk_zret hC hr hk dX6_report_185 rfl (by unfold mM_rep; rw [if_pos c35]; unfold mM_repW; rw [if_pos c54]; rw [if_neg c177]) (by unfold mM_rep; rw [if_pos c35]; unfold mM_repW; rw [if_pos c54]) rfl
            · refine fk_iconst (v := 1) hC dX6_report_180 (by decide) ?_
              refine fk_goto (tgt := 185) hC dX6_report_181 (by decide) ?_
              exact fk_zret hC hr hk dX6_report_185 rfl (by unfold mM_rep; rw [if_pos c35]; unfold mM_repW; rw [if_pos c54]; rw [if_pos c177]) (by unfold mM_rep; rw [if_pos c35]; unfold mM_repW; rw [if_pos c54]) rfl
          · exact absurd c54 c75
    · exact absurd c21 (by decide)

set_option maxHeartbeats 4000000 in
set_option maxRecDepth 100000 in
theorem eX6_report (l : Launch) (D : va_G) (K : Nat → ClassId) (NL : List Nat) (ad : Nat → Nat) (G : fM) (x : fX) (hm : f_EM NL) (cn : Nat) (hc : G (iM 0) = nI cn) (hc10 : cn ≤ 10) (v : Int32) (pd : Int32) (h : v < 0 ∨ ¬ v < nI cn) : Kd l yX6_report wsX6_report { frames := 2, cells := 0, slots := 0, locals := 43 } vwCl D K NL ad [.ref (ad 310), .int v, .int pd] G x (some (.int 0)) (upd G (iT 0) 1) x := by
  refine Kd.of (cc := cX6_report) (maxL := 4) (ret := (some .boolean)) (L := [some (.ref (ad 310)), some (.int v), some (.int pd), none]) (by decide +kernel) rfl rfl (Nat.le_of_ble_eq_true rfl) ?_
  intro p e s m args below meth c hC hN hr hk hnme
  have iX6 : ∀ w ∈ wsX60, w ∈ wsX6_report := by decide +kernel
  refine fk_aload_n hC dX6_report_0 rfl rfl ?_
  refine fk_aload_n hC dX6_report_1 rfl rfl ?_
  refine fk_iload_n hC dX6_report_2 rfl rfl ?_
  refine fk_callV hC hN (kX6_isServer l D K NL ad _ x hm _) hm.1 (f_E310 _ _ _ _ _) rfl (cwV 1 hC.1.2.2.2.2 gX6_report_X6_isServer rfl rfl rfl (by decide +kernel) ⟨Nat.le_of_ble_eq_true rfl, Nat.le_of_ble_eq_true rfl⟩) rfl rfl (Nat.le_of_ble_eq_true rfl) dX6_report_3 ⟨Nat.zero_le _, Nat.zero_le _⟩ ?_
  refine fk_topi (show _ = (0 : Int32) by rw [hc]; exact inV_f (rng_no (by omega) h)) ?_
  refine fk_if_eq (tgt := 13) hC dX6_report_6 (by decide) (fun c6 => ?_) (fun c6 => ?_)
  · refine fk_iconst (v := 1) hC dX6_report_13 (by decide) ?_
    refine fk_putM_3 hC hm iX6 (by decide +kernel) dX6_report_14 ?_
    refine fk_aload_n hC dX6_report_17 rfl rfl ?_
    refine fk_getM_3 hC hm iX6 (by decide +kernel) dX6_report_18 ?_
    refine fk_topi pk_us ?_
    refine fk_if_eq (tgt := 26) hC dX6_report_21 (by decide) (fun c21 => ?_) (fun c21 => ?_)
    · exact absurd c21 (by decide)
    · refine fk_iconst (v := 0) hC dX6_report_24 (by decide) ?_
      exact fk_zret hC hr hk dX6_report_25 rfl rfl rfl rfl
  · exact absurd c6 (by decide)

def mM_tkI (i : Nat) (Q : fM) : fM := if Q (iM (83 + i)) = 1 then (if Q (iM 1) - Q (iM (93 + i)) < Q (iM 5) then Q else upd (upd Q (iM (83 + i)) 2) (iM (103 + i)) (-1)) else Q
def mM_tkO (cn _k : Nat) (Q : fM) : fM := fold9 mM_tkI cn 0 (upd Q (iM 1) (Q (iM 1) + 1))
def mM_tick (n cn : Nat) (G : fM) : fM := fold9 (mM_tkO cn) n 0 (upd G (iT 0) 0)
theorem mM_tkI_ne {i g : Nat} {Q : fM} (h1 : g ≠ iM (83 + i)) (h2 : g ≠ iM (103 + i)) : mM_tkI i Q g = Q g := by
  unfold mM_tkI
  split
  · split
    · rfl
    · rw [pk_un h2, pk_un h1]
  · rfl
set_option maxHeartbeats 4000000 in
set_option maxRecDepth 100000 in
theorem kX6_tick (l : Launch) (D : va_G) (K : Nat → ClassId) (NL : List Nat) (ad : Nat → Nat) (G : fM) (x : fX) (hm : f_EM NL) (cn : Nat) (hc : G (iM 0) = nI cn) (hc10 : cn ≤ 10) (n : Nat) (hn : n ≤ 200) (h : rng (nI n) 1 200) : Kd l yX6_tick wsX6_tick { frames := 1, cells := 0, slots := 0, locals := 22 } vwCl D K NL ad [.ref (ad 310), .int (nI n)] G x (some (.int (mM_tick n cn G (iM 1)))) (mM_tick n cn G) x := by
  refine Kd.of (cc := cX6_tick) (maxL := 4) (ret := (some .int)) (L := [some (.ref (ad 310)), some (.int (nI n)), none, none]) (by decide +kernel) rfl rfl (Nat.le_of_ble_eq_true rfl) ?_
  intro p e s m args below meth c hC hN hr hk hnme
  have iX6 : ∀ w ∈ wsX60, w ∈ wsX6_tick := by decide +kernel
  have lp : ∀ (d : Nat) (k : Nat) (Q : fM), n - k = d → k ≤ n → Q (iM 0) = nI cn → mM_tick n cn G = fold9 (mM_tkO cn) (n - k) k Q → Wk p l e { frames := 1, cells := 0, slots := 0, locals := 22 } s m args below meth c vwCl D K NL ad (f_A NL ad s.heap.size) s.heap 4 0 0 (MQ below (f_Post vwCl D K NL ad (mM_tick n cn G) x (some (.int (mM_tick n cn G (iM 1)))) s.heap.size) args s 0 0 (f_A NL ad s.heap.size)) Q x 31 [some (.ref (ad 310)), some (.int (nI n)), some (.int (nI k)), none] [] := by
    intro d
    induction d using Nat.strongRecOn with
    | _ d iho =>
      intro k Q hd hkn hQ hs
      have lpi : ∀ (d : Nat) (i : Nat) (Q : fM), k < n → cn - i = d → i ≤ cn → Q (iM 0) = nI cn → mM_tick n cn G = fold9 (mM_tkO cn) (n - (k + 1)) (k + 1) (fold9 mM_tkI (cn - i) i Q) → Wk p l e { frames := 1, cells := 0, slots := 0, locals := 22 } s m args below meth c vwCl D K NL ad (f_A NL ad s.heap.size) s.heap 4 0 0 (MQ below (f_Post vwCl D K NL ad (mM_tick n cn G) x (some (.int (mM_tick n cn G (iM 1)))) s.heap.size) args s 0 0 (f_A NL ad s.heap.size)) Q x 48 [some (.ref (ad 310)), some (.int (nI n)), some (.int (nI k)), some (.int (nI i))] [] := by
        intro d
        induction d using Nat.strongRecOn with
        | _ d ih =>
          intro i Q hkn2 hd hin hQ hs
          refine fk_iload_n hC dX6_tick_48 rfl rfl ?_
          refine fk_aload_n hC dX6_tick_49 rfl rfl ?_
          refine fk_getM_0 hC hm iX6 (by decide +kernel) dX6_tick_50 ?_
          refine fk_iconst (v := 0) hC dX6_tick_53 (by decide) ?_
          refine fk_ld_at hC (j := 0) hm rfl (by omega) dX6_tick_54 ?_
          refine fk_icmp_ge (tgt := 122) hC dX6_tick_55 (by decide) (fun c55 => ?_) (fun c55 => ?_)
          · rw [hQ] at c55
            have q55 := f_le (by omega) (by omega) c55
            rw [fold9_end q55] at hs
            refine fk_iinc hC dX6_tick_122 rfl (f_inc k) (by decide) rfl ?_
            refine fk_goto (tgt := 31) hC dX6_tick_125 (by decide) ?_
            refine fk_drop 3 ?_
            exact iho (n - (k + 1)) (by omega) (k + 1) _ rfl (by omega) hQ hs
          · rw [hQ] at c55
            have q55 := f_nle (by omega) (by omega) c55
            refine fk_aload_n hC dX6_tick_58 rfl rfl ?_
            refine fk_getM_0 hC hm iX6 (by decide +kernel) dX6_tick_59 ?_
            refine fk_bipush (v := 83) hC dX6_tick_62 (by decide) ?_
            refine fk_iload_n hC dX6_tick_64 rfl rfl ?_
            refine fk_iadd hC dX6_tick_65 ?_
            refine fk_ld_at hC (j := 83 + i) hm (nI_add 83 i) (by omega) dX6_tick_66 ?_
            refine fk_iconst (v := 1) hC dX6_tick_67 (by decide) ?_
            refine fk_icmp_ne (tgt := 116) hC dX6_tick_68 (by decide) (fun c68 => ?_) (fun c68 => ?_)
            · refine fk_iinc hC dX6_tick_116 rfl (f_inc i) (by decide) rfl ?_
              refine fk_goto (tgt := 48) hC dX6_tick_119 (by decide) ?_
              exact ih (cn - (i + 1)) (by omega) (i + 1) _ hkn2 rfl (by omega) hQ (hs.trans (congrArg _ ((fold9_step q55).trans (by rw [mM_tkI, if_neg c68]))))
            · refine fk_aload_n hC dX6_tick_71 rfl rfl ?_
              refine fk_getM_0 hC hm iX6 (by decide +kernel) dX6_tick_72 ?_
              refine fk_iconst (v := 1) hC dX6_tick_75 (by decide) ?_
              refine fk_ld_at hC (j := 1) hm rfl (by omega) dX6_tick_76 ?_
              refine fk_aload_n hC dX6_tick_77 rfl rfl ?_
              refine fk_getM_0 hC hm iX6 (by decide +kernel) dX6_tick_78 ?_
              refine fk_bipush (v := 93) hC dX6_tick_81 (by decide) ?_
              refine fk_iload_n hC dX6_tick_83 rfl rfl ?_
              refine fk_iadd hC dX6_tick_84 ?_
              refine fk_ld_at hC (j := 93 + i) hm (nI_add 93 i) (by omega) dX6_tick_85 ?_
              refine fk_isub hC dX6_tick_86 ?_
              refine fk_aload_n hC dX6_tick_87 rfl rfl ?_
              refine fk_getM_0 hC hm iX6 (by decide +kernel) dX6_tick_88 ?_
              refine fk_iconst (v := 5) hC dX6_tick_91 (by decide) ?_
              refine fk_ld_at hC (j := 5) hm rfl (by omega) dX6_tick_92 ?_
              refine fk_icmp_lt (tgt := 116) hC dX6_tick_93 (by decide) (fun c93 => ?_) (fun c93 => ?_)
              · refine fk_iinc hC dX6_tick_116 rfl (f_inc i) (by decide) rfl ?_
                refine fk_goto (tgt := 48) hC dX6_tick_119 (by decide) ?_
                exact ih (cn - (i + 1)) (by omega) (i + 1) _ hkn2 rfl (by omega) hQ (hs.trans (congrArg _ ((fold9_step q55).trans (by rw [mM_tkI, if_pos c68, if_pos c93]))))
              · refine fk_aload_n hC dX6_tick_96 rfl rfl ?_
                refine fk_getM_0 hC hm iX6 (by decide +kernel) dX6_tick_97 ?_
                refine fk_bipush (v := 83) hC dX6_tick_100 (by decide) ?_
                refine fk_iload_n hC dX6_tick_102 rfl rfl ?_
                refine fk_iadd hC dX6_tick_103 ?_
                refine fk_iconst (v := 2) hC dX6_tick_104 (by decide) ?_
                refine fk_st_at hC (j := 83 + i) hm (nI_add 83 i) (by omega) dX6_tick_105 ?_
                refine fk_aload_n hC dX6_tick_106 rfl rfl ?_
                refine fk_getM_0 hC hm iX6 (by decide +kernel) dX6_tick_107 ?_
                refine fk_bipush (v := 103) hC dX6_tick_110 (by decide) ?_
                refine fk_iload_n hC dX6_tick_112 rfl rfl ?_
                refine fk_iadd hC dX6_tick_113 ?_
                refine fk_iconst (v := (-1)) hC dX6_tick_114 (by decide) ?_
                refine fk_st_at hC (j := 103 + i) hm (nI_add 103 i) (by omega) dX6_tick_115 ?_
                refine fk_iinc hC dX6_tick_116 rfl (f_inc i) (by decide) rfl ?_
                refine fk_goto (tgt := 48) hC dX6_tick_119 (by decide) ?_
                exact ih (cn - (i + 1)) (by omega) (i + 1) _ hkn2 rfl (by omega) (by rw [pk_un (by unfold iM; omega), pk_un (by unfold iM; omega)]; exact hQ) (hs.trans (congrArg _ ((fold9_step q55).trans (by rw [mM_tkI, if_pos c68, if_neg c93]))))
      refine fk_iload_n hC dX6_tick_31 rfl rfl ?_
      refine fk_iload_n hC dX6_tick_32 rfl rfl ?_
      refine fk_icmp_ge (tgt := 128) hC dX6_tick_33 (by decide) (fun c33 => ?_) (fun c33 => ?_)
      · have q33 := f_le (by omega) (by omega) c33
        rw [fold9_end q33] at hs
        refine fk_aload_n hC dX6_tick_128 rfl rfl ?_
        refine fk_getM_0 hC hm iX6 (by decide +kernel) dX6_tick_129 ?_
        refine fk_iconst (v := 1) hC dX6_tick_132 (by decide) ?_
        refine fk_ld_at hC (j := 1) hm rfl (by omega) dX6_tick_133 ?_
        exact fk_iret hC hr hk dX6_tick_134 (by rw [hs]) (by rw [hs]) rfl
      · have q33 := f_nle (by omega) (by omega) c33
        refine fk_aload_n hC dX6_tick_36 rfl rfl ?_
        refine fk_getM_0 hC hm iX6 (by decide +kernel) dX6_tick_37 ?_
        refine fk_iconst (v := 1) hC dX6_tick_40 (by decide) ?_
        refine fk_dup2 hC dX6_tick_41 rfl rfl ?_
        refine fk_ld_at hC (j := 1) hm rfl (by omega) dX6_tick_42 ?_
        refine fk_iconst (v := 1) hC dX6_tick_43 (by decide) ?_
        refine fk_iadd hC dX6_tick_44 ?_
        refine fk_st_at hC (j := 1) hm rfl (by omega) dX6_tick_45 ?_
        refine fk_iconst (v := 0) hC dX6_tick_46 (by decide) ?_
        refine fk_istore_n hC dX6_tick_47 rfl (by decide) rfl ?_
        exact lpi cn 0 _ q33 rfl (Nat.zero_le _) (by rw [pk_un (by unfold iM; omega)]; exact hQ) (hs.trans (fold9_step q33))
  refine fk_aload_n hC dX6_tick_0 rfl rfl ?_
  refine fk_iload_n hC dX6_tick_1 rfl rfl ?_
  refine fk_iconst (v := 1) hC dX6_tick_2 (by decide) ?_
  refine fk_sipush (v := 200) hC dX6_tick_3 (by decide) ?_
  refine fk_callS hC hN (kX6_in l D K NL ad _ x _ _ _) (va_cwS 3 hC.1.2.2.2.2 gX6_tick_X6_in rfl rfl rfl (by decide +kernel) ⟨Nat.le_of_ble_eq_true rfl, Nat.le_of_ble_eq_true rfl⟩) rfl rfl (Nat.le_of_ble_eq_true rfl) dX6_tick_6 ⟨Nat.zero_le _, Nat.zero_le _⟩ ?_
  refine fk_topi (inV_t h) ?_
  refine fk_if_eq (tgt := 16) hC dX6_tick_9 (by decide) (fun c9 => ?_) (fun c9 => ?_)
  · exact absurd c9 (by decide)
  · refine fk_iconst (v := 0) hC dX6_tick_12 (by decide) ?_
    refine fk_goto (tgt := 17) hC dX6_tick_13 (by decide) ?_
    refine fk_putM_3 hC hm iX6 (by decide +kernel) dX6_tick_17 ?_
    refine fk_aload_n hC dX6_tick_20 rfl rfl ?_
    refine fk_getM_3 hC hm iX6 (by decide +kernel) dX6_tick_21 ?_
    refine fk_topi pk_us ?_
    refine fk_if_eq (tgt := 29) hC dX6_tick_24 (by decide) (fun c24 => ?_) (fun c24 => ?_)
    · refine fk_iconst (v := 0) hC dX6_tick_29 (by decide) ?_
      refine fk_istore_n hC dX6_tick_30 rfl (by decide) rfl ?_
      exact lp n 0 _ rfl (Nat.zero_le _) (by rw [pk_un (by unfold iM iT; omega)]; exact hc) rfl
    · exact absurd c24 (by decide)

set_option maxHeartbeats 4000000 in
set_option maxRecDepth 100000 in
theorem eX6_tick (l : Launch) (D : va_G) (K : Nat → ClassId) (NL : List Nat) (ad : Nat → Nat) (G : fM) (x : fX) (hm : f_EM NL) (a : Int32) (h : ¬ rng a 1 200) : Kd l yX6_tick wsX6_tick { frames := 1, cells := 0, slots := 0, locals := 22 } vwCl D K NL ad [.ref (ad 310), .int a] G x (some (.int 0)) (upd G (iT 0) 1) x := by
  refine Kd.of (cc := cX6_tick) (maxL := 4) (ret := (some .int)) (L := [some (.ref (ad 310)), some (.int a), none, none]) (by decide +kernel) rfl rfl (Nat.le_of_ble_eq_true rfl) ?_
  intro p e s m args below meth c hC hN hr hk hnme
  have iX6 : ∀ w ∈ wsX60, w ∈ wsX6_tick := by decide +kernel
  refine fk_aload_n hC dX6_tick_0 rfl rfl ?_
  refine fk_iload_n hC dX6_tick_1 rfl rfl ?_
  refine fk_iconst (v := 1) hC dX6_tick_2 (by decide) ?_
  refine fk_sipush (v := 200) hC dX6_tick_3 (by decide) ?_
  refine fk_callS hC hN (kX6_in l D K NL ad _ x _ _ _) (va_cwS 3 hC.1.2.2.2.2 gX6_tick_X6_in rfl rfl rfl (by decide +kernel) ⟨Nat.le_of_ble_eq_true rfl, Nat.le_of_ble_eq_true rfl⟩) rfl rfl (Nat.le_of_ble_eq_true rfl) dX6_tick_6 ⟨Nat.zero_le _, Nat.zero_le _⟩ ?_
  refine fk_topi (inV_f h) ?_
  refine fk_if_eq (tgt := 16) hC dX6_tick_9 (by decide) (fun c9 => ?_) (fun c9 => ?_)
  · refine fk_iconst (v := 1) hC dX6_tick_16 (by decide) ?_
    refine fk_putM_3 hC hm iX6 (by decide +kernel) dX6_tick_17 ?_
    refine fk_aload_n hC dX6_tick_20 rfl rfl ?_
    refine fk_getM_3 hC hm iX6 (by decide +kernel) dX6_tick_21 ?_
    refine fk_topi pk_us ?_
    refine fk_if_eq (tgt := 29) hC dX6_tick_24 (by decide) (fun c24 => ?_) (fun c24 => ?_)
    · exact absurd c24 (by decide)
    · refine fk_iconst (v := 0) hC dX6_tick_27 (by decide) ?_
      exact fk_iret hC hr hk dX6_tick_28 rfl rfl rfl
  · exact absurd c9 (by decide)

def mM_layF (i : Nat) (Q : fM) : fM := if mM_acc i Q = 0 then Q else upd (upd Q (iW (Q (iT 1)).toNatClampNeg) (nI i)) (iT 1) (upd Q (iW (Q (iT 1)).toNatClampNeg) (nI i) (iT 1) + 1)
def mM_lay (cn : Nat) (G : fM) : fM := fold9 mM_layF cn 0 (upd G (iT 1) 0)
set_option maxHeartbeats 4000000 in
set_option maxRecDepth 100000 in
theorem kX6_layRow (l : Launch) (D : va_G) (K : Nat → ClassId) (NL : List Nat) (ad : Nat → Nat) (G : fM) (x : fX) (hm : f_EM NL) (cn : Nat) (hc : G (iM 0) = nI cn) (hc10 : cn ≤ 10) : Kd l yX6_layRow wsX6_layRow { frames := 1, cells := 0, slots := 0, locals := 22 } vwCl D K NL ad [.ref (ad 310)] G x none (mM_lay cn G) x := by
  refine Kd.of (cc := cX6_layRow) (maxL := 2) (ret := none) (L := [some (.ref (ad 310)), none]) (by decide +kernel) rfl rfl (Nat.le_of_ble_eq_true rfl) ?_
  intro p e s m args below meth c hC hN hr hk hnme
  have iX6 : ∀ w ∈ wsX60, w ∈ wsX6_layRow := by decide +kernel
  have lp : ∀ (d : Nat) (k : Nat) (Q : fM) (t : Nat), cn - k = d → k ≤ cn → Q (iM 0) = nI cn → Q (iT 1) = nI t → t ≤ k → mM_lay cn G = fold9 mM_layF (cn - k) k Q → Wk p l e { frames := 1, cells := 0, slots := 0, locals := 22 } s m args below meth c vwCl D K NL ad (f_A NL ad s.heap.size) s.heap 2 0 0 (MQ below (f_Post vwCl D K NL ad (mM_lay cn G) x none s.heap.size) args s 0 0 (f_A NL ad s.heap.size)) Q x 7 [some (.ref (ad 310)), some (.int (nI k))] [] := by
    intro d
    induction d using Nat.strongRecOn with
    | _ d ih =>
      intro k Q t hd hkn hQ ht htk hs
      refine fk_iload_n hC dX6_layRow_7 rfl rfl ?_
      refine fk_aload_n hC dX6_layRow_8 rfl rfl ?_
      refine fk_getM_0 hC hm iX6 (by decide +kernel) dX6_layRow_9 ?_
      refine fk_iconst (v := 0) hC dX6_layRow_12 (by decide) ?_
      refine fk_ld_at hC (j := 0) hm rfl (by omega) dX6_layRow_13 ?_
      refine fk_icmp_ge (tgt := 51) hC dX6_layRow_14 (by decide) (fun c14 => ?_) (fun c14 => ?_)
      · rw [hQ] at c14
        have q14 := f_le (by omega) (by omega) c14
        exact fk_vret hC hr hk dX6_layRow_51 rfl (by rw [hs, fold9_end q14]) rfl
      · rw [hQ] at c14
        have q14 := f_nle (by omega) (by omega) c14
        refine fk_aload_n hC dX6_layRow_17 rfl rfl ?_
        refine fk_iload_n hC dX6_layRow_18 rfl rfl ?_
        refine fk_callV hC hN (kX6_mayTake l D K NL ad _ x hm k (by omega)) hm.1 (f_E310 _ _ _ _ _) rfl (cwV 1 hC.1.2.2.2.2 gX6_layRow_X6_mayTake rfl rfl rfl (by decide +kernel) ⟨Nat.le_of_ble_eq_true rfl, Nat.le_of_ble_eq_true rfl⟩) rfl rfl (Nat.le_of_ble_eq_true rfl) dX6_layRow_19 ⟨Nat.zero_le _, Nat.zero_le _⟩ ?_
        refine fk_if_eq (tgt := 45) hC dX6_layRow_22 (by decide) (fun c22 => ?_) (fun c22 => ?_)
        · refine fk_iinc hC dX6_layRow_45 rfl (f_inc k) (by decide) rfl ?_
          refine fk_goto (tgt := 7) hC dX6_layRow_48 (by decide) ?_
          exact ih (cn - (k + 1)) (by omega) (k + 1) Q t rfl (by omega) hQ ht (by omega) (hs.trans ((fold9_step q14).trans (by rw [mM_layF, if_pos c22])))
        · refine fk_aload_n hC dX6_layRow_25 rfl rfl ?_
          refine fk_getM_4 hC hm iX6 (by decide +kernel) dX6_layRow_26 ?_
          refine fk_aload_n hC dX6_layRow_29 rfl rfl ?_
          refine fk_getM_5 hC hm iX6 (by decide +kernel) dX6_layRow_30 ?_
          refine fk_iload_n hC dX6_layRow_33 rfl rfl ?_
          refine fk_st_rw (j := t) hC hm ht (by omega) dX6_layRow_34 ?_
          refine fk_aload_n hC dX6_layRow_35 rfl rfl ?_
          refine fk_dup hC dX6_layRow_36 rfl ?_
          refine fk_getM_5 hC hm iX6 (by decide +kernel) dX6_layRow_37 ?_
          refine fk_iconst (v := 1) hC dX6_layRow_40 (by decide) ?_
          refine fk_iadd hC dX6_layRow_41 ?_
          refine fk_putM_5 hC hm iX6 (by decide +kernel) dX6_layRow_42 ?_
          refine fk_iinc hC dX6_layRow_45 rfl (f_inc k) (by decide) rfl ?_
          refine fk_goto (tgt := 7) hC dX6_layRow_48 (by decide) ?_
          exact ih (cn - (k + 1)) (by omega) (k + 1) _ (t + 1) rfl (by omega) (by rw [pk_un (by unfold iM iT; omega), pk_un (by unfold iM iW; omega)]; exact hQ) (by rw [pk_us, pk_un (by unfold iT iW; omega), ht]; exact nI_1 t) (by omega) (hs.trans ((fold9_step q14).trans (by rw [mM_layF, if_neg c22, ht, nI_clamp (by omega)])))
  refine fk_aload_n hC dX6_layRow_0 rfl rfl ?_
  refine fk_iconst (v := 0) hC dX6_layRow_1 (by decide) ?_
  refine fk_putM_5 hC hm iX6 (by decide +kernel) dX6_layRow_2 ?_
  refine fk_iconst (v := 0) hC dX6_layRow_5 (by decide) ?_
  refine fk_istore_n hC dX6_layRow_6 rfl (by decide) rfl ?_
  exact lp cn 0 _ 0 rfl (Nat.zero_le _) (by rw [pk_un (by unfold iM iT; omega)]; exact hc) pk_us (Nat.le_refl _) rfl

/-- the row holds A, a list of servers below cn -/
def RowOK (cn : Nat) (A : List Nat) (G : fM) : Prop := G (iT 1) = nI A.length ∧ A.length ≤ 10 ∧ ∀ k, k < A.length → G (iW k) = nI (A.getD k 0) ∧ A.getD k 0 < cn
def wtOK (cn : Nat) (G : fM) : Prop := ∀ i, i < cn → ¬ G (iM (73 + i)) = -1 → G (iM 1) - G (iM (73 + i)) < G (iM 4) → ¬ G (iM 4) = 0
def mM_turnP (A : List Nat) (G : fM) (k : Nat) : Bool := !decide (nI (A.getD k 0) ≤ G (iM 9))
def mM_turn (A : List Nat) (G : fM) : Nat := match srch (mM_turnP A G) 0 A.length with
  | some k => A.getD k 0
  | none => A.getD 0 0
def mM_cr (i : Nat) (G : fM) : Int32 := G (iM (113 + i)) + mM_wt i G
def mM_crS (A : List Nat) (G : fM) (k b : Nat) : Nat := if mM_cr (A.getD k 0) G ≤ mM_cr b G then b else A.getD k 0
def mM_byCr (A : List Nat) (G : fM) : Nat := fold9 (mM_crS A G) (A.length - 1) 1 (A.getD 0 0)
def mM_llS (A : List Nat) (G : fM) (k b : Nat) : Nat := if G (iM (33 + b)) * mM_wt (A.getD k 0) G ≤ G (iM (33 + A.getD k 0)) * mM_wt b G then b else A.getD k 0
def mM_ll (A : List Nat) (G : fM) : Nat := fold9 (mM_llS A G) (A.length - 1) 1 (A.getD 0 0)
set_option maxHeartbeats 4000000 in
set_option maxRecDepth 100000 in
theorem kX6_nextInTurn (l : Launch) (D : va_G) (K : Nat → ClassId) (NL : List Nat) (ad : Nat → Nat) (G : fM) (x : fX) (hm : f_EM NL) (cn : Nat) (hc10 : cn ≤ 10) (A : List Nat) (hA : RowOK cn A G) (hA0 : 0 < A.length) : Kd l yX6_nextInTurn wsX6_nextInTurn { frames := 0, cells := 0, slots := 0, locals := 0 } vwCl D K NL ad [.ref (ad 310)] G x (some (.int (nI (mM_turn A G)))) G x := by
  refine Kd.of (cc := cX6_nextInTurn) (maxL := 2) (ret := (some .int)) (L := [some (.ref (ad 310)), none]) (by decide +kernel) rfl rfl (Nat.le_of_ble_eq_true rfl) ?_
  intro p e s m args below meth c hC hN hr hk hnme
  have iX6 : ∀ w ∈ wsX60, w ∈ wsX6_nextInTurn := by decide +kernel
  obtain ⟨hl1, hl2, hl3⟩ := hA
  have lp : ∀ (d : Nat) (k : Nat), A.length - k = d → k ≤ A.length → srch (mM_turnP A G) 0 A.length = srch (mM_turnP A G) k (A.length - k) → Wk p l e { frames := 0, cells := 0, slots := 0, locals := 0 } s m args below meth c vwCl D K NL ad (f_A NL ad s.heap.size) s.heap 2 0 0 (MQ below (f_Post vwCl D K NL ad G x (some (.int (nI (mM_turn A G)))) s.heap.size) args s 0 0 (f_A NL ad s.heap.size)) G x 2 [some (.ref (ad 310)), some (.int (nI k))] [] := by
    intro d
    induction d using Nat.strongRecOn with
    | _ d ih =>
      intro k hd hkn hs
      refine fk_iload_n hC dX6_nextInTurn_2 rfl rfl ?_
      refine fk_aload_n hC dX6_nextInTurn_3 rfl rfl ?_
      refine fk_getM_5 hC hm iX6 (by decide +kernel) dX6_nextInTurn_4 ?_
      refine fk_icmp_ge (tgt := 39) hC dX6_nextInTurn_7 (by decide) (fun c7 => ?_) (fun c7 => ?_)
      · rw [hl1] at c7
        have q7 := f_le (by omega) (by omega) c7
        refine fk_aload_n hC dX6_nextInTurn_39 rfl rfl ?_
        refine fk_getM_4 hC hm iX6 (by decide +kernel) dX6_nextInTurn_40 ?_
        refine fk_iconst (v := 0) hC dX6_nextInTurn_43 (by decide) ?_
        refine fk_ld_rw hC (j := 0) hm rfl (by omega) dX6_nextInTurn_44 ?_
        refine fk_topi (hl3 0 hA0).1 ?_
        exact fk_iret hC hr hk dX6_nextInTurn_45 (by unfold mM_turn; rw [hs, srch_end q7 rfl]) rfl rfl
      · rw [hl1] at c7
        have q7 := f_nle (by omega) (by omega) c7
        refine fk_aload_n hC dX6_nextInTurn_10 rfl rfl ?_
        refine fk_getM_4 hC hm iX6 (by decide +kernel) dX6_nextInTurn_11 ?_
        refine fk_iload_n hC dX6_nextInTurn_14 rfl rfl ?_
        refine fk_ld_rw hC (j := k) hm rfl (by omega) dX6_nextInTurn_15 ?_
        refine fk_topi (hl3 k q7).1 ?_
        refine fk_aload_n hC dX6_nextInTurn_16 rfl rfl ?_
        refine fk_getM_0 hC hm iX6 (by decide +kernel) dX6_nextInTurn_17 ?_
        refine fk_bipush (v := 9) hC dX6_nextInTurn_20 (by decide) ?_
        refine fk_ld_at hC (j := 9) hm rfl (by omega) dX6_nextInTurn_22 ?_
        refine fk_icmp_le (tgt := 33) hC dX6_nextInTurn_23 (by decide) (fun c23 => ?_) (fun c23 => ?_)
        · refine fk_iinc hC dX6_nextInTurn_33 rfl (f_inc k) (by decide) rfl ?_
          refine fk_goto (tgt := 2) hC dX6_nextInTurn_36 (by decide) ?_
          exact ih (A.length - (k + 1)) (by omega) (k + 1) rfl (by omega) (hs.trans (srch_step q7 (by unfold mM_turnP; rw [decide_eq_true c23]; rfl) rfl))
        · refine fk_aload_n hC dX6_nextInTurn_26 rfl rfl ?_
          refine fk_getM_4 hC hm iX6 (by decide +kernel) dX6_nextInTurn_27 ?_
          refine fk_iload_n hC dX6_nextInTurn_30 rfl rfl ?_
          refine fk_ld_rw hC (j := k) hm rfl (by omega) dX6_nextInTurn_31 ?_
          refine fk_topi (hl3 k q7).1 ?_
          exact fk_iret hC hr hk dX6_nextInTurn_32 (by unfold mM_turn; rw [hs, srch_hit (by omega) (by unfold mM_turnP; rw [decide_eq_false c23]; rfl)]) rfl rfl
  refine fk_iconst (v := 0) hC dX6_nextInTurn_0 (by decide) ?_
  refine fk_istore_n hC dX6_nextInTurn_1 rfl (by decide) rfl ?_
  exact lp A.length 0 rfl (Nat.zero_le _) rfl

set_option maxHeartbeats 4000000 in
set_option maxRecDepth 100000 in
theorem kX6_mostCredit (l : Launch) (D : va_G) (K : Nat → ClassId) (NL : List Nat) (ad : Nat → Nat) (G : fM) (x : fX) (hm : f_EM NL) (cn : Nat) (hc10 : cn ≤ 10) (A : List Nat) (hA : RowOK cn A G) (hA0 : 0 < A.length) (hw : wtOK cn G) : Kd l yX6_mostCredit wsX6_mostCredit { frames := 1, cells := 0, slots := 0, locals := 23 } vwCl D K NL ad [.ref (ad 310)] G x (some (.int (nI (mM_byCr A G)))) G x := by
  refine Kd.of (cc := cX6_mostCredit) (maxL := 4) (ret := (some .int)) (L := [some (.ref (ad 310)), none, none, none]) (by decide +kernel) rfl rfl (Nat.le_of_ble_eq_true rfl) ?_
  intro p e s m args below meth c hC hN hr hk hnme
  have iX6 : ∀ w ∈ wsX60, w ∈ wsX6_mostCredit := by decide +kernel
  obtain ⟨hl1, hl2, hl3⟩ := hA
  have lp : ∀ (d : Nat) (k b : Nat), A.length - k = d → k ≤ A.length → b < cn → fold9 (mM_crS A G) (A.length - 1) 1 (A.getD 0 0) = fold9 (mM_crS A G) (A.length - k) k b → Wk p l e { frames := 1, cells := 0, slots := 0, locals := 23 } s m args below meth c vwCl D K NL ad (f_A NL ad s.heap.size) s.heap 4 0 0 (MQ below (f_Post vwCl D K NL ad G x (some (.int (nI (mM_byCr A G)))) s.heap.size) args s 0 0 (f_A NL ad s.heap.size)) G x 9 [some (.ref (ad 310)), some (.int (nI b)), some (.int (nI k)), none] [] := by
    intro d
    induction d using Nat.strongRecOn with
    | _ d ih =>
      intro k b hd hkn hb hs
      refine fk_iload_n hC dX6_mostCredit_9 rfl rfl ?_
      refine fk_aload_n hC dX6_mostCredit_10 rfl rfl ?_
      refine fk_getM_5 hC hm iX6 (by decide +kernel) dX6_mostCredit_11 ?_
      refine fk_icmp_ge (tgt := 69) hC dX6_mostCredit_14 (by decide) (fun c14 => ?_) (fun c14 => ?_)
      · rw [hl1] at c14
        have q14 := f_le (by omega) (by omega) c14
        refine fk_iload_n hC dX6_mostCredit_69 rfl rfl ?_
        exact fk_iret hC hr hk dX6_mostCredit_70 (by unfold mM_byCr; rw [hs, fold9_end q14]) rfl rfl
      · rw [hl1] at c14
        have q14 := f_nle (by omega) (by omega) c14
        have q15 := (hl3 k q14).2
        refine fk_aload_n hC dX6_mostCredit_17 rfl rfl ?_
        refine fk_getM_4 hC hm iX6 (by decide +kernel) dX6_mostCredit_18 ?_
        refine fk_iload_n hC dX6_mostCredit_21 rfl rfl ?_
        refine fk_ld_rw hC (j := k) hm rfl (by omega) dX6_mostCredit_22 ?_
        refine fk_topi (hl3 k q14).1 ?_
        refine fk_istore_n hC dX6_mostCredit_23 rfl (by decide) rfl ?_
        refine fk_aload_n hC dX6_mostCredit_24 rfl rfl ?_
        refine fk_getM_0 hC hm iX6 (by decide +kernel) dX6_mostCredit_25 ?_
        refine fk_bipush (v := 113) hC dX6_mostCredit_28 (by decide) ?_
        refine fk_iload_n hC dX6_mostCredit_30 rfl rfl ?_
        refine fk_iadd hC dX6_mostCredit_31 ?_
        refine fk_ld_at hC (j := 113 + (A.getD k 0)) hm (nI_add 113 (A.getD k 0)) (by omega) dX6_mostCredit_32 ?_
        refine fk_aload_n hC dX6_mostCredit_33 rfl rfl ?_
        refine fk_iload_n hC dX6_mostCredit_34 rfl rfl ?_
        refine fk_callV hC hN (kX6_weightNow l D K NL ad _ x hm (A.getD k 0) (by have := (hl3 k q14).2; omega) (hw _ (hl3 k q14).2)) hm.1 (f_E310 _ _ _ _ _) rfl (cwV 1 hC.1.2.2.2.2 gX6_mostCredit_X6_weightNow rfl rfl rfl (by decide +kernel) ⟨Nat.le_of_ble_eq_true rfl, Nat.le_of_ble_eq_true rfl⟩) rfl rfl (Nat.le_of_ble_eq_true rfl) dX6_mostCredit_35 ⟨Nat.zero_le _, Nat.zero_le _⟩ ?_
        refine fk_iadd hC dX6_mostCredit_38 ?_
        refine fk_aload_n hC dX6_mostCredit_39 rfl rfl ?_
        refine fk_getM_0 hC hm iX6 (by decide +kernel) dX6_mostCredit_40 ?_
        refine fk_bipush (v := 113) hC dX6_mostCredit_43 (by decide) ?_
        refine fk_iload_n hC dX6_mostCredit_45 rfl rfl ?_
        refine fk_iadd hC dX6_mostCredit_46 ?_
        refine fk_ld_at hC (j := 113 + b) hm (nI_add 113 b) (by omega) dX6_mostCredit_47 ?_
        refine fk_aload_n hC dX6_mostCredit_48 rfl rfl ?_
        refine fk_iload_n hC dX6_mostCredit_49 rfl rfl ?_
        refine fk_callV hC hN (kX6_weightNow l D K NL ad _ x hm b (by omega) (hw _ hb)) hm.1 (f_E310 _ _ _ _ _) rfl (cwV 1 hC.1.2.2.2.2 gX6_mostCredit_X6_weightNow rfl rfl rfl (by decide +kernel) ⟨Nat.le_of_ble_eq_true rfl, Nat.le_of_ble_eq_true rfl⟩) rfl rfl (Nat.le_of_ble_eq_true rfl) dX6_mostCredit_50 ⟨Nat.zero_le _, Nat.zero_le _⟩ ?_
        refine fk_iadd hC dX6_mostCredit_53 ?_
        refine fk_icmp_le (tgt := 61) hC dX6_mostCredit_54 (by decide) (fun c54 => ?_) (fun c54 => ?_)
        · refine fk_iload_n hC dX6_mostCredit_61 rfl rfl ?_
          refine fk_istore_n hC dX6_mostCredit_62 rfl (by decide) rfl ?_
          refine fk_iinc hC dX6_mostCredit_63 rfl (f_inc k) (by decide) rfl ?_
          refine fk_goto (tgt := 9) hC dX6_mostCredit_66 (by decide) ?_
          refine fk_drop 3 ?_
          exact ih (A.length - (k + 1)) (by omega) (k + 1) b rfl (by omega) hb (hs.trans ((fold9_step q14).trans (by rw [mM_crS, if_pos (show mM_cr (A.getD k 0) G ≤ mM_cr b G from c54)])))
        · refine fk_iload_n hC dX6_mostCredit_57 rfl rfl ?_
          refine fk_goto (tgt := 62) hC dX6_mostCredit_58 (by decide) ?_
          refine fk_istore_n hC dX6_mostCredit_62 rfl (by decide) rfl ?_
          refine fk_iinc hC dX6_mostCredit_63 rfl (f_inc k) (by decide) rfl ?_
          refine fk_goto (tgt := 9) hC dX6_mostCredit_66 (by decide) ?_
          refine fk_drop 3 ?_
          exact ih (A.length - (k + 1)) (by omega) (k + 1) (A.getD k 0) rfl (by omega) (hl3 k q14).2 (hs.trans ((fold9_step q14).trans (by rw [mM_crS, if_neg (show ¬ mM_cr (A.getD k 0) G ≤ mM_cr b G from c54)])))
  refine fk_aload_n hC dX6_mostCredit_0 rfl rfl ?_
  refine fk_getM_4 hC hm iX6 (by decide +kernel) dX6_mostCredit_1 ?_
  refine fk_iconst (v := 0) hC dX6_mostCredit_4 (by decide) ?_
  refine fk_ld_rw hC (j := 0) hm rfl (by omega) dX6_mostCredit_5 ?_
  refine fk_topi (hl3 0 hA0).1 ?_
  refine fk_istore_n hC dX6_mostCredit_6 rfl (by decide) rfl ?_
  refine fk_iconst (v := 1) hC dX6_mostCredit_7 (by decide) ?_
  refine fk_istore_n hC dX6_mostCredit_8 rfl (by decide) rfl ?_
  exact lp (A.length - 1) 1 (A.getD 0 0) rfl hA0 (hl3 0 hA0).2 rfl

set_option maxHeartbeats 4000000 in
set_option maxRecDepth 100000 in
theorem kX6_leastBusy (l : Launch) (D : va_G) (K : Nat → ClassId) (NL : List Nat) (ad : Nat → Nat) (G : fM) (x : fX) (hm : f_EM NL) (cn : Nat) (hc10 : cn ≤ 10) (A : List Nat) (hA : RowOK cn A G) (hA0 : 0 < A.length) (hw : wtOK cn G) : Kd l yX6_leastBusy wsX6_leastBusy { frames := 1, cells := 0, slots := 0, locals := 23 } vwCl D K NL ad [.ref (ad 310)] G x (some (.int (nI (mM_ll A G)))) G x := by
  refine Kd.of (cc := cX6_leastBusy) (maxL := 4) (ret := (some .int)) (L := [some (.ref (ad 310)), none, none, none]) (by decide +kernel) rfl rfl (Nat.le_of_ble_eq_true rfl) ?_
  intro p e s m args below meth c hC hN hr hk hnme
  have iX6 : ∀ w ∈ wsX60, w ∈ wsX6_leastBusy := by decide +kernel
  obtain ⟨hl1, hl2, hl3⟩ := hA
  have lp : ∀ (d : Nat) (k b : Nat), A.length - k = d → k ≤ A.length → b < cn → fold9 (mM_llS A G) (A.length - 1) 1 (A.getD 0 0) = fold9 (mM_llS A G) (A.length - k) k b → Wk p l e { frames := 1, cells := 0, slots := 0, locals := 23 } s m args below meth c vwCl D K NL ad (f_A NL ad s.heap.size) s.heap 4 0 0 (MQ below (f_Post vwCl D K NL ad G x (some (.int (nI (mM_ll A G)))) s.heap.size) args s 0 0 (f_A NL ad s.heap.size)) G x 9 [some (.ref (ad 310)), some (.int (nI b)), some (.int (nI k)), none] [] := by
    intro d
    induction d using Nat.strongRecOn with
    | _ d ih =>
      intro k b hd hkn hb hs
      refine fk_iload_n hC dX6_leastBusy_9 rfl rfl ?_
      refine fk_aload_n hC dX6_leastBusy_10 rfl rfl ?_
      refine fk_getM_5 hC hm iX6 (by decide +kernel) dX6_leastBusy_11 ?_
      refine fk_icmp_ge (tgt := 69) hC dX6_leastBusy_14 (by decide) (fun c14 => ?_) (fun c14 => ?_)
      · rw [hl1] at c14
        have q14 := f_le (by omega) (by omega) c14
        refine fk_iload_n hC dX6_leastBusy_69 rfl rfl ?_
        exact fk_iret hC hr hk dX6_leastBusy_70 (by unfold mM_ll; rw [hs, fold9_end q14]) rfl rfl
      · rw [hl1] at c14
        have q14 := f_nle (by omega) (by omega) c14
        have q15 := (hl3 k q14).2
        refine fk_aload_n hC dX6_leastBusy_17 rfl rfl ?_
        refine fk_getM_4 hC hm iX6 (by decide +kernel) dX6_leastBusy_18 ?_
        refine fk_iload_n hC dX6_leastBusy_21 rfl rfl ?_
        refine fk_ld_rw hC (j := k) hm rfl (by omega) dX6_leastBusy_22 ?_
        refine fk_topi (hl3 k q14).1 ?_
        refine fk_istore_n hC dX6_leastBusy_23 rfl (by decide) rfl ?_
        refine fk_aload_n hC dX6_leastBusy_24 rfl rfl ?_
        refine fk_getM_0 hC hm iX6 (by decide +kernel) dX6_leastBusy_25 ?_
        refine fk_bipush (v := 33) hC dX6_leastBusy_28 (by decide) ?_
        refine fk_iload_n hC dX6_leastBusy_30 rfl rfl ?_
        refine fk_iadd hC dX6_leastBusy_31 ?_
        refine fk_ld_at hC (j := 33 + (A.getD k 0)) hm (nI_add 33 (A.getD k 0)) (by omega) dX6_leastBusy_32 ?_
        refine fk_aload_n hC dX6_leastBusy_33 rfl rfl ?_
        refine fk_iload_n hC dX6_leastBusy_34 rfl rfl ?_
        refine fk_callV hC hN (kX6_weightNow l D K NL ad _ x hm b (by omega) (hw _ hb)) hm.1 (f_E310 _ _ _ _ _) rfl (cwV 1 hC.1.2.2.2.2 gX6_leastBusy_X6_weightNow rfl rfl rfl (by decide +kernel) ⟨Nat.le_of_ble_eq_true rfl, Nat.le_of_ble_eq_true rfl⟩) rfl rfl (Nat.le_of_ble_eq_true rfl) dX6_leastBusy_35 ⟨Nat.zero_le _, Nat.zero_le _⟩ ?_
        refine fk_imul hC dX6_leastBusy_38 ?_
        refine fk_aload_n hC dX6_leastBusy_39 rfl rfl ?_
        refine fk_getM_0 hC hm iX6 (by decide +kernel) dX6_leastBusy_40 ?_
        refine fk_bipush (v := 33) hC dX6_leastBusy_43 (by decide) ?_
        refine fk_iload_n hC dX6_leastBusy_45 rfl rfl ?_
        refine fk_iadd hC dX6_leastBusy_46 ?_
        refine fk_ld_at hC (j := 33 + b) hm (nI_add 33 b) (by omega) dX6_leastBusy_47 ?_
        refine fk_aload_n hC dX6_leastBusy_48 rfl rfl ?_
        refine fk_iload_n hC dX6_leastBusy_49 rfl rfl ?_
        refine fk_callV hC hN (kX6_weightNow l D K NL ad _ x hm (A.getD k 0) (by have := (hl3 k q14).2; omega) (hw _ (hl3 k q14).2)) hm.1 (f_E310 _ _ _ _ _) rfl (cwV 1 hC.1.2.2.2.2 gX6_leastBusy_X6_weightNow rfl rfl rfl (by decide +kernel) ⟨Nat.le_of_ble_eq_true rfl, Nat.le_of_ble_eq_true rfl⟩) rfl rfl (Nat.le_of_ble_eq_true rfl) dX6_leastBusy_50 ⟨Nat.zero_le _, Nat.zero_le _⟩ ?_
        refine fk_imul hC dX6_leastBusy_53 ?_
        refine fk_icmp_ge (tgt := 61) hC dX6_leastBusy_54 (by decide) (fun c54 => ?_) (fun c54 => ?_)
        · refine fk_iload_n hC dX6_leastBusy_61 rfl rfl ?_
          refine fk_istore_n hC dX6_leastBusy_62 rfl (by decide) rfl ?_
          refine fk_iinc hC dX6_leastBusy_63 rfl (f_inc k) (by decide) rfl ?_
          refine fk_goto (tgt := 9) hC dX6_leastBusy_66 (by decide) ?_
          refine fk_drop 3 ?_
          exact ih (A.length - (k + 1)) (by omega) (k + 1) b rfl (by omega) hb (hs.trans ((fold9_step q14).trans (by rw [mM_llS, if_pos (show G (iM (33 + b)) * mM_wt (A.getD k 0) G ≤ G (iM (33 + A.getD k 0)) * mM_wt b G from c54)])))
        · refine fk_iload_n hC dX6_leastBusy_57 rfl rfl ?_
          refine fk_goto (tgt := 62) hC dX6_leastBusy_58 (by decide) ?_
          refine fk_istore_n hC dX6_leastBusy_62 rfl (by decide) rfl ?_
          refine fk_iinc hC dX6_leastBusy_63 rfl (f_inc k) (by decide) rfl ?_
          refine fk_goto (tgt := 9) hC dX6_leastBusy_66 (by decide) ?_
          refine fk_drop 3 ?_
          exact ih (A.length - (k + 1)) (by omega) (k + 1) (A.getD k 0) rfl (by omega) (hl3 k q14).2 (hs.trans ((fold9_step q14).trans (by rw [mM_llS, if_neg (show ¬ G (iM (33 + b)) * mM_wt (A.getD k 0) G ≤ G (iM (33 + A.getD k 0)) * mM_wt b G from c54)])))
  refine fk_aload_n hC dX6_leastBusy_0 rfl rfl ?_
  refine fk_getM_4 hC hm iX6 (by decide +kernel) dX6_leastBusy_1 ?_
  refine fk_iconst (v := 0) hC dX6_leastBusy_4 (by decide) ?_
  refine fk_ld_rw hC (j := 0) hm rfl (by omega) dX6_leastBusy_5 ?_
  refine fk_topi (hl3 0 hA0).1 ?_
  refine fk_istore_n hC dX6_leastBusy_6 rfl (by decide) rfl ?_
  refine fk_iconst (v := 1) hC dX6_leastBusy_7 (by decide) ?_
  refine fk_istore_n hC dX6_leastBusy_8 rfl (by decide) rfl ?_
  exact lp (A.length - 1) 1 (A.getD 0 0) rfl hA0 (hl3 0 hA0).2 rfl

set_option maxHeartbeats 4000000 in
set_option maxRecDepth 100000 in
theorem kX6_mix (l : Launch) (D : va_G) (K : Nat → ClassId) (NL : List Nat) (ad : Nat → Nat) (G : fM) (x : fX) (v : Int32) : Kd l yX6_mix wsX6_mix { frames := 0, cells := 0, slots := 0, locals := 0 } vwCl D K NL ad [.int v] G x (some (.int (mix9 v))) G x := by
  refine Kd.of (cc := cX6_mix) (maxL := 2) (ret := (some .int)) (L := [some (.int v), none]) (by decide +kernel) rfl rfl (Nat.le_of_ble_eq_true rfl) ?_
  intro p e s m args below meth c hC hN hr hk hnme
  refine fk_iload_n hC dX6_mix_0 rfl rfl ?_
  refine fk_istore_n hC dX6_mix_1 rfl (by decide) rfl ?_
  refine fk_iload_n hC dX6_mix_2 rfl rfl ?_
  refine fk_iload_n hC dX6_mix_3 rfl rfl ?_
  refine fk_bipush (v := 16) hC dX6_mix_4 (by decide) ?_
  refine fk_iushr hC dX6_mix_6 rfl ?_
  refine fk_ixor hC dX6_mix_7 ?_
  refine fk_istore_n hC dX6_mix_8 rfl (by decide) rfl ?_
  refine fk_iload_n hC dX6_mix_9 rfl rfl ?_
  refine fk_ldc (v := 73244475) hC (by decide +kernel) dX6_mix_10 ?_
  refine fk_imul hC dX6_mix_12 ?_
  refine fk_istore_n hC dX6_mix_13 rfl (by decide) rfl ?_
  refine fk_iload_n hC dX6_mix_14 rfl rfl ?_
  refine fk_iload_n hC dX6_mix_15 rfl rfl ?_
  refine fk_bipush (v := 16) hC dX6_mix_16 (by decide) ?_
  refine fk_iushr hC dX6_mix_18 rfl ?_
  refine fk_ixor hC dX6_mix_19 ?_
  refine fk_istore_n hC dX6_mix_20 rfl (by decide) rfl ?_
  refine fk_iload_n hC dX6_mix_21 rfl rfl ?_
  refine fk_ldc (v := 73244475) hC (by decide +kernel) dX6_mix_22 ?_
  refine fk_imul hC dX6_mix_24 ?_
  refine fk_istore_n hC dX6_mix_25 rfl (by decide) rfl ?_
  refine fk_iload_n hC dX6_mix_26 rfl rfl ?_
  refine fk_iload_n hC dX6_mix_27 rfl rfl ?_
  refine fk_bipush (v := 16) hC dX6_mix_28 (by decide) ?_
  refine fk_iushr hC dX6_mix_30 rfl ?_
  refine fk_ixor hC dX6_mix_31 ?_
  refine fk_istore_n hC dX6_mix_32 rfl (by decide) rfl ?_
  refine fk_iload_n hC dX6_mix_33 rfl rfl ?_
  exact fk_iret hC hr hk dX6_mix_34 rfl rfl rfl

set_option maxHeartbeats 4000000 in
set_option maxRecDepth 100000 in
theorem kX6_nextSeed (l : Launch) (D : va_G) (K : Nat → ClassId) (NL : List Nat) (ad : Nat → Nat) (G : fM) (x : fX) (v : Int32) : Kd l yX6_nextSeed wsX6_nextSeed { frames := 0, cells := 0, slots := 0, locals := 0 } vwCl D K NL ad [.int v] G x (some (.int (sed9 v))) G x := by
  refine Kd.of (cc := cX6_nextSeed) (maxL := 1) (ret := (some .int)) (L := [some (.int v)]) (by decide +kernel) rfl rfl (Nat.le_of_ble_eq_true rfl) ?_
  intro p e s m args below meth c hC hN hr hk hnme
  refine fk_iload_n hC dX6_nextSeed_0 rfl rfl ?_
  refine fk_ldc (v := 1103515245) hC (by decide +kernel) dX6_nextSeed_1 ?_
  refine fk_imul hC dX6_nextSeed_3 ?_
  refine fk_sipush (v := 12345) hC dX6_nextSeed_4 (by decide) ?_
  refine fk_iadd hC dX6_nextSeed_7 ?_
  exact fk_iret hC hr hk dX6_nextSeed_8 rfl rfl rfl

def pl9 (v : Int32) : Int64 := (mix9 v).toInt64 &&& 4294967295
set_option maxHeartbeats 4000000 in
set_option maxRecDepth 100000 in
theorem kX6_placeOf (l : Launch) (D : va_G) (K : Nat → ClassId) (NL : List Nat) (ad : Nat → Nat) (G : fM) (x : fX) (v : Int32) : Kd l yX6_placeOf wsX6_placeOf { frames := 1, cells := 0, slots := 0, locals := 21 } vwCl D K NL ad [.int v] G x (some (.long (pl9 v))) G x := by
  refine Kd.of (cc := cX6_placeOf) (maxL := 1) (ret := (some .long)) (L := [some (.int v)]) (by decide +kernel) rfl rfl (Nat.le_of_ble_eq_true rfl) ?_
  intro p e s m args below meth c hC hN hr hk hnme
  refine fk_iload_n hC dX6_placeOf_0 rfl rfl ?_
  refine fk_callS hC hN (kX6_mix l D K NL ad _ x _) (va_cwS 1 hC.1.2.2.2.2 gX6_placeOf_X6_mix rfl rfl rfl (by decide +kernel) ⟨Nat.le_of_ble_eq_true rfl, Nat.le_of_ble_eq_true rfl⟩) rfl rfl (Nat.le_of_ble_eq_true rfl) dX6_placeOf_1 ⟨Nat.zero_le _, Nat.zero_le _⟩ ?_
  refine fk_i2l hC dX6_placeOf_4 rfl ?_
  refine fk_ldc2 (v := 4294967295) hC (by decide +kernel) dX6_placeOf_5 ?_
  refine fk_land hC dX6_placeOf_8 ?_
  exact fk_lret hC hr hk dX6_placeOf_9 rfl rfl rfl

def far9 (cl : Int32) (i k : Nat) : Int64 := (pl9 (1000 * nI i + nI k) - pl9 cl) &&& 4294967295
def mM_bpI (cl : Int32) (i k : Nat) (q : Option Nat × Int64) : Option Nat × Int64 := if q.1 = none then (some i, far9 cl i k) else if 0 ≤ lg_cmp (far9 cl i k) q.2 then q else (some i, far9 cl i k)
def mW (i : Nat) (G : fM) : Nat := (G (iM (13 + i))).toNatClampNeg
def mM_bpO (G : fM) (cl al : Int32) (i : Nat) (q : Option Nat × Int64) : Option Nat × Int64 := if al = 0 then (if mM_acc i G = 0 then q else fold9 (mM_bpI cl i) (4 * mW i G) 0 q) else fold9 (mM_bpI cl i) (4 * mW i G) 0 q
def mM_bp (cn : Nat) (cl al : Int32) (G : fM) : Option Nat := (fold9 (mM_bpO G cl al) cn 0 (none, 0)).1
theorem rI_neg {b : Option Nat} {N : Nat} (hN : N < 2 ^ 31) (hb : ∀ j, b = some j → j < N) : rI b < 0 ↔ b = none := by
  cases b with
  | none => exact ⟨fun _ => rfl, fun _ => by decide⟩
  | some j => exact ⟨fun h => absurd h (nI_pos (by have := hb j rfl; omega)), fun h => by cases h⟩
set_option maxHeartbeats 4000000 in
set_option maxRecDepth 100000 in
theorem kX6_byPoints (l : Launch) (D : va_G) (K : Nat → ClassId) (NL : List Nat) (ad : Nat → Nat) (G : fM) (x : fX) (hm : f_EM NL) (cn : Nat) (hc : G (iM 0) = nI cn) (hc10 : cn ≤ 10) (hw : ∀ i, i < cn → G (iM (13 + i)) = nI (mW i G) ∧ 1 ≤ mW i G ∧ mW i G ≤ 10) (cl al : Int32) : Kd l yX6_byPoints wsX6_byPoints { frames := 2, cells := 0, slots := 0, locals := 41 } vwCl D K NL ad [.ref (ad 310), .int cl, .int al] G x (some (.int (rI (mM_bp cn cl al G)))) G x := by
  refine Kd.of (cc := cX6_byPoints) (maxL := 12) (ret := (some .int)) (L := [some (.ref (ad 310)), some (.int cl), some (.int al), none, none, none, none, none, none, none, none, none]) (by decide +kernel) rfl rfl (Nat.le_of_ble_eq_true rfl) ?_
  intro p e s m args below meth c hC hN hr hk hnme
  have iX6 : ∀ w ∈ wsX60, w ∈ wsX6_byPoints := by decide +kernel
  have lp : ∀ (d : Nat) (i : Nat) (b : Option Nat) (lf : Int64), cn - i = d → i ≤ cn → (∀ j, b = some j → j < i) → fold9 (mM_bpO G cl al) cn 0 (none, 0) = fold9 (mM_bpO G cl al) (cn - i) i (b, lf) → Wk p l e { frames := 2, cells := 0, slots := 0, locals := 41 } s m args below meth c vwCl D K NL ad (f_A NL ad s.heap.size) s.heap 12 0 0 (MQ below (f_Post vwCl D K NL ad G x (some (.int (rI (mM_bp cn cl al G)))) s.heap.size) args s 0 0 (f_A NL ad s.heap.size)) G x 14 [some (.ref (ad 310)), some (.int cl), some (.int al), some (.long (pl9 cl)), none, some (.long lf), none, some (.int (rI b)), some (.int (nI i)), none, none, none] [] := by
    intro d
    induction d using Nat.strongRecOn with
    | _ d iho =>
      intro i b lf hd hkn hb hs
      refine fk_iload hC dX6_byPoints_14 rfl ?_
      refine fk_aload_n hC dX6_byPoints_16 rfl rfl ?_
      refine fk_getM_0 hC hm iX6 (by decide +kernel) dX6_byPoints_17 ?_
      refine fk_iconst (v := 0) hC dX6_byPoints_20 (by decide) ?_
      refine fk_ld_at hC (j := 0) hm rfl (by omega) dX6_byPoints_21 ?_
      refine fk_icmp_ge (tgt := 111) hC dX6_byPoints_22 (by decide) (fun c22 => ?_) (fun c22 => ?_)
      · rw [hc] at c22
        have q22 := f_le (by omega) (by omega) c22
        rw [fold9_end q22] at hs
        refine fk_iload hC dX6_byPoints_111 rfl ?_
        exact fk_iret hC hr hk dX6_byPoints_113 (by unfold mM_bp; rw [hs]) rfl rfl
      · rw [hc] at c22
        have q22 := f_nle (by omega) (by omega) c22
        have hwi := hw i q22
        refine fk_iconst (v := 0) hC dX6_byPoints_25 (by decide) ?_
        refine fk_istore hC dX6_byPoints_26 (by decide) rfl ?_
        by_cases hgo : al = 0 ∧ mM_acc i G = 0
        · obtain ⟨hal0, hcc⟩ := hgo
          refine fk_iload hC dX6_byPoints_28 rfl ?_
          refine fk_iconst (v := 4) hC dX6_byPoints_30 (by decide) ?_
          refine fk_aload_n hC dX6_byPoints_31 rfl rfl ?_
          refine fk_getM_0 hC hm iX6 (by decide +kernel) dX6_byPoints_32 ?_
          refine fk_bipush (v := 13) hC dX6_byPoints_35 (by decide) ?_
          refine fk_iload hC dX6_byPoints_37 rfl ?_
          refine fk_iadd hC dX6_byPoints_39 ?_
          refine fk_ld_at hC (j := 13 + i) hm (nI_add 13 i) (by omega) dX6_byPoints_40 ?_
          refine fk_topi hwi.1 ?_
          refine fk_imul hC dX6_byPoints_41 ?_
          refine fk_icmp_ge (tgt := 105) hC dX6_byPoints_42 (by decide) (fun c42 => ?_) (fun c42 => ?_)
          · rw [show (4 : Int32) * nI (mW i G) = nI (4 * mW i G) from pk_mul 4 (mW i G)] at c42
            have q42 := f_le (b := 0) (by omega) (by decide) c42
            omega
          · refine fk_iload_n hC dX6_byPoints_45 rfl rfl ?_
            refine fk_if_ne (tgt := 58) hC dX6_byPoints_46 (by decide) (fun c46 => ?_) (fun c46 => ?_)
            · exact absurd hal0 c46
            · refine fk_aload_n hC dX6_byPoints_49 rfl rfl ?_
              refine fk_iload hC dX6_byPoints_50 rfl ?_
              refine fk_callV hC hN (kX6_mayTake l D K NL ad _ x hm i (by omega)) hm.1 (f_E310 _ _ _ _ _) rfl (cwV 1 hC.1.2.2.2.2 gX6_byPoints_X6_mayTake rfl rfl rfl (by decide +kernel) ⟨Nat.le_of_ble_eq_true rfl, Nat.le_of_ble_eq_true rfl⟩) rfl rfl (Nat.le_of_ble_eq_true rfl) dX6_byPoints_52 ⟨Nat.zero_le _, Nat.zero_le _⟩ ?_
              refine fk_if_eq (tgt := 105) hC dX6_byPoints_55 (by decide) (fun c55 => ?_) (fun c55 => ?_)
              · refine fk_iinc hC dX6_byPoints_105 rfl (f_inc i) (by decide) rfl ?_
                refine fk_goto (tgt := 14) hC dX6_byPoints_108 (by decide) ?_
                refine fk_drop 9 ?_
                exact iho (cn - (i + 1)) (by omega) (i + 1) b lf rfl (by omega) (fun j hj => Nat.lt_succ_of_lt (hb j hj)) (hs.trans ((fold9_step q22).trans (by rw [mM_bpO, if_pos hal0, if_pos hcc])))
              · exact absurd hcc c55
        · have hal : al = 0 → ¬ mM_acc i G = 0 := fun h1 h2 => hgo ⟨h1, h2⟩
          have lpi : ∀ (d : Nat) (k : Nat) (b : Option Nat) (lf : Int64), 4 * mW i G - k = d → k ≤ 4 * mW i G → (∀ j, b = some j → j < i + 1) → fold9 (mM_bpO G cl al) cn 0 (none, 0) = fold9 (mM_bpO G cl al) (cn - (i + 1)) (i + 1) (fold9 (mM_bpI cl i) (4 * mW i G - k) k (b, lf)) → Wk p l e { frames := 2, cells := 0, slots := 0, locals := 41 } s m args below meth c vwCl D K NL ad (f_A NL ad s.heap.size) s.heap 12 0 0 (MQ below (f_Post vwCl D K NL ad G x (some (.int (rI (mM_bp cn cl al G)))) s.heap.size) args s 0 0 (f_A NL ad s.heap.size)) G x 28 [some (.ref (ad 310)), some (.int cl), some (.int al), some (.long (pl9 cl)), none, some (.long lf), none, some (.int (rI b)), some (.int (nI i)), some (.int (nI k)), none, none] [] := by
            intro d
            induction d using Nat.strongRecOn with
            | _ d ih =>
              intro k b lf hd hin hb hs
              refine fk_iload hC dX6_byPoints_28 rfl ?_
              refine fk_iconst (v := 4) hC dX6_byPoints_30 (by decide) ?_
              refine fk_aload_n hC dX6_byPoints_31 rfl rfl ?_
              refine fk_getM_0 hC hm iX6 (by decide +kernel) dX6_byPoints_32 ?_
              refine fk_bipush (v := 13) hC dX6_byPoints_35 (by decide) ?_
              refine fk_iload hC dX6_byPoints_37 rfl ?_
              refine fk_iadd hC dX6_byPoints_39 ?_
              refine fk_ld_at hC (j := 13 + i) hm (nI_add 13 i) (by omega) dX6_byPoints_40 ?_
              refine fk_topi hwi.1 ?_
              refine fk_imul hC dX6_byPoints_41 ?_
              refine fk_icmp_ge (tgt := 105) hC dX6_byPoints_42 (by decide) (fun c42 => ?_) (fun c42 => ?_)
              · rw [show (4 : Int32) * nI (mW i G) = nI (4 * mW i G) from pk_mul 4 (mW i G)] at c42
                have q42 := f_le (by omega) (by omega) c42
                rw [fold9_end q42] at hs
                refine fk_iinc hC dX6_byPoints_105 rfl (f_inc i) (by decide) rfl ?_
                refine fk_goto (tgt := 14) hC dX6_byPoints_108 (by decide) ?_
                refine fk_drop 9 ?_
                exact iho (cn - (i + 1)) (by omega) (i + 1) b lf rfl (by omega) hb hs
              · rw [show (4 : Int32) * nI (mW i G) = nI (4 * mW i G) from pk_mul 4 (mW i G)] at c42
                have q42 := f_nle (by omega) (by omega) c42
                refine fk_iload_n hC dX6_byPoints_45 rfl rfl ?_
                refine fk_if_ne (tgt := 58) hC dX6_byPoints_46 (by decide) (fun c46 => ?_) (fun c46 => ?_)
                · refine fk_sipush (v := 1000) hC dX6_byPoints_58 (by decide) ?_
                  refine fk_iload hC dX6_byPoints_61 rfl ?_
                  refine fk_imul hC dX6_byPoints_63 ?_
                  refine fk_iload hC dX6_byPoints_64 rfl ?_
                  refine fk_iadd hC dX6_byPoints_66 ?_
                  refine fk_callS hC hN (kX6_placeOf l D K NL ad _ x _) (va_cwS 1 hC.1.2.2.2.2 gX6_byPoints_X6_placeOf rfl rfl rfl (by decide +kernel) ⟨Nat.le_of_ble_eq_true rfl, Nat.le_of_ble_eq_true rfl⟩) rfl rfl (Nat.le_of_ble_eq_true rfl) dX6_byPoints_67 ⟨Nat.zero_le _, Nat.zero_le _⟩ ?_
                  refine fk_lload_n hC dX6_byPoints_70 rfl rfl ?_
                  refine fk_lsub hC dX6_byPoints_71 ?_
                  refine fk_ldc2 (v := 4294967295) hC (by decide +kernel) dX6_byPoints_72 ?_
                  refine fk_land hC dX6_byPoints_75 ?_
                  refine fk_lstore hC dX6_byPoints_76 (by decide) rfl ?_
                  refine fk_iload hC dX6_byPoints_78 rfl ?_
                  refine fk_if_lt (tgt := 91) hC dX6_byPoints_80 (by decide) (fun c80 => ?_) (fun c80 => ?_)
                  · have q80 : b = none := (rI_neg (N := i + 1) (by omega) hb).mp c80
                    refine fk_iload hC dX6_byPoints_91 rfl ?_
                    refine fk_istore hC dX6_byPoints_93 (by decide) rfl ?_
                    refine fk_lload hC dX6_byPoints_95 rfl ?_
                    refine fk_lstore hC dX6_byPoints_97 (by decide) rfl ?_
                    refine fk_iinc hC dX6_byPoints_99 rfl (f_inc k) (by decide) rfl ?_
                    refine fk_goto (tgt := 28) hC dX6_byPoints_102 (by decide) ?_
                    refine fk_drop 10 ?_
                    exact ih (4 * mW i G - (k + 1)) (by omega) (k + 1) (some i) _ rfl (by omega) (fun j hj => by cases hj; exact Nat.lt_succ_self _) (hs.trans (congrArg _ ((fold9_step q42).trans (by rw [mM_bpI, if_pos q80]; rfl))))
                  · have q80 : ¬ b = none := fun h => c80 ((rI_neg (N := i + 1) (by omega) hb).mpr h)
                    refine fk_lload hC dX6_byPoints_83 rfl ?_
                    refine fk_lload hC dX6_byPoints_85 rfl ?_
                    refine fk_lcmp hC dX6_byPoints_87 ?_
                    refine fk_if_ge (tgt := 99) hC dX6_byPoints_88 (by decide) (fun c88 => ?_) (fun c88 => ?_)
                    · refine fk_iinc hC dX6_byPoints_99 rfl (f_inc k) (by decide) rfl ?_
                      refine fk_goto (tgt := 28) hC dX6_byPoints_102 (by decide) ?_
                      refine fk_drop 10 ?_
                      exact ih (4 * mW i G - (k + 1)) (by omega) (k + 1) b lf rfl (by omega) (fun j hj => hb j hj) (hs.trans (congrArg _ ((fold9_step q42).trans (by rw [mM_bpI, if_neg q80, if_pos (show 0 ≤ lg_cmp (far9 cl i k) (b, lf).snd from c88)]))))
                    · refine fk_iload hC dX6_byPoints_91 rfl ?_
                      refine fk_istore hC dX6_byPoints_93 (by decide) rfl ?_
                      refine fk_lload hC dX6_byPoints_95 rfl ?_
                      refine fk_lstore hC dX6_byPoints_97 (by decide) rfl ?_
                      refine fk_iinc hC dX6_byPoints_99 rfl (f_inc k) (by decide) rfl ?_
                      refine fk_goto (tgt := 28) hC dX6_byPoints_102 (by decide) ?_
                      refine fk_drop 10 ?_
                      exact ih (4 * mW i G - (k + 1)) (by omega) (k + 1) (some i) _ rfl (by omega) (fun j hj => by cases hj; exact Nat.lt_succ_self _) (hs.trans (congrArg _ ((fold9_step q42).trans (by rw [mM_bpI, if_neg q80, if_neg (show ¬ 0 ≤ lg_cmp (far9 cl i k) (b, lf).snd from c88)]; rfl))))
                · refine fk_aload_n hC dX6_byPoints_49 rfl rfl ?_
                  refine fk_iload hC dX6_byPoints_50 rfl ?_
                  refine fk_callV hC hN (kX6_mayTake l D K NL ad _ x hm i (by omega)) hm.1 (f_E310 _ _ _ _ _) rfl (cwV 1 hC.1.2.2.2.2 gX6_byPoints_X6_mayTake rfl rfl rfl (by decide +kernel) ⟨Nat.le_of_ble_eq_true rfl, Nat.le_of_ble_eq_true rfl⟩) rfl rfl (Nat.le_of_ble_eq_true rfl) dX6_byPoints_52 ⟨Nat.zero_le _, Nat.zero_le _⟩ ?_
                  refine fk_if_eq (tgt := 105) hC dX6_byPoints_55 (by decide) (fun c55 => ?_) (fun c55 => ?_)
                  · exact absurd c55 (hal c46)
                  · refine fk_sipush (v := 1000) hC dX6_byPoints_58 (by decide) ?_
                    refine fk_iload hC dX6_byPoints_61 rfl ?_
                    refine fk_imul hC dX6_byPoints_63 ?_
                    refine fk_iload hC dX6_byPoints_64 rfl ?_
                    refine fk_iadd hC dX6_byPoints_66 ?_
                    refine fk_callS hC hN (kX6_placeOf l D K NL ad _ x _) (va_cwS 1 hC.1.2.2.2.2 gX6_byPoints_X6_placeOf rfl rfl rfl (by decide +kernel) ⟨Nat.le_of_ble_eq_true rfl, Nat.le_of_ble_eq_true rfl⟩) rfl rfl (Nat.le_of_ble_eq_true rfl) dX6_byPoints_67 ⟨Nat.zero_le _, Nat.zero_le _⟩ ?_
                    refine fk_lload_n hC dX6_byPoints_70 rfl rfl ?_
                    refine fk_lsub hC dX6_byPoints_71 ?_
                    refine fk_ldc2 (v := 4294967295) hC (by decide +kernel) dX6_byPoints_72 ?_
                    refine fk_land hC dX6_byPoints_75 ?_
                    refine fk_lstore hC dX6_byPoints_76 (by decide) rfl ?_
                    refine fk_iload hC dX6_byPoints_78 rfl ?_
                    refine fk_if_lt (tgt := 91) hC dX6_byPoints_80 (by decide) (fun c80 => ?_) (fun c80 => ?_)
                    · have q80 : b = none := (rI_neg (N := i + 1) (by omega) hb).mp c80
                      refine fk_iload hC dX6_byPoints_91 rfl ?_
                      refine fk_istore hC dX6_byPoints_93 (by decide) rfl ?_
                      refine fk_lload hC dX6_byPoints_95 rfl ?_
                      refine fk_lstore hC dX6_byPoints_97 (by decide) rfl ?_
                      refine fk_iinc hC dX6_byPoints_99 rfl (f_inc k) (by decide) rfl ?_
                      refine fk_goto (tgt := 28) hC dX6_byPoints_102 (by decide) ?_
                      refine fk_drop 10 ?_
                      exact ih (4 * mW i G - (k + 1)) (by omega) (k + 1) (some i) _ rfl (by omega) (fun j hj => by cases hj; exact Nat.lt_succ_self _) (hs.trans (congrArg _ ((fold9_step q42).trans (by rw [mM_bpI, if_pos q80]; rfl))))
                    · have q80 : ¬ b = none := fun h => c80 ((rI_neg (N := i + 1) (by omega) hb).mpr h)
                      refine fk_lload hC dX6_byPoints_83 rfl ?_
                      refine fk_lload hC dX6_byPoints_85 rfl ?_
                      refine fk_lcmp hC dX6_byPoints_87 ?_
                      refine fk_if_ge (tgt := 99) hC dX6_byPoints_88 (by decide) (fun c88 => ?_) (fun c88 => ?_)
                      · refine fk_iinc hC dX6_byPoints_99 rfl (f_inc k) (by decide) rfl ?_
                        refine fk_goto (tgt := 28) hC dX6_byPoints_102 (by decide) ?_
                        refine fk_drop 10 ?_
                        exact ih (4 * mW i G - (k + 1)) (by omega) (k + 1) b lf rfl (by omega) (fun j hj => hb j hj) (hs.trans (congrArg _ ((fold9_step q42).trans (by rw [mM_bpI, if_neg q80, if_pos (show 0 ≤ lg_cmp (far9 cl i k) (b, lf).snd from c88)]))))
                      · refine fk_iload hC dX6_byPoints_91 rfl ?_
                        refine fk_istore hC dX6_byPoints_93 (by decide) rfl ?_
                        refine fk_lload hC dX6_byPoints_95 rfl ?_
                        refine fk_lstore hC dX6_byPoints_97 (by decide) rfl ?_
                        refine fk_iinc hC dX6_byPoints_99 rfl (f_inc k) (by decide) rfl ?_
                        refine fk_goto (tgt := 28) hC dX6_byPoints_102 (by decide) ?_
                        refine fk_drop 10 ?_
                        exact ih (4 * mW i G - (k + 1)) (by omega) (k + 1) (some i) _ rfl (by omega) (fun j hj => by cases hj; exact Nat.lt_succ_self _) (hs.trans (congrArg _ ((fold9_step q42).trans (by rw [mM_bpI, if_neg q80, if_neg (show ¬ 0 ≤ lg_cmp (far9 cl i k) (b, lf).snd from c88)]; rfl))))
          exact lpi (4 * mW i G) 0 b lf rfl (Nat.zero_le _) (fun j hj => Nat.lt_succ_of_lt (hb j hj)) (hs.trans ((fold9_step q22).trans (by
            unfold mM_bpO
            split
            · rename_i h0
              rw [if_neg (fun h => hgo ⟨h0, h⟩)]; rfl
            · rfl)))
  refine fk_iload_n hC dX6_byPoints_0 rfl rfl ?_
  refine fk_callS hC hN (kX6_placeOf l D K NL ad _ x _) (va_cwS 1 hC.1.2.2.2.2 gX6_byPoints_X6_placeOf rfl rfl rfl (by decide +kernel) ⟨Nat.le_of_ble_eq_true rfl, Nat.le_of_ble_eq_true rfl⟩) rfl rfl (Nat.le_of_ble_eq_true rfl) dX6_byPoints_1 ⟨Nat.zero_le _, Nat.zero_le _⟩ ?_
  refine fk_lstore_n hC dX6_byPoints_4 rfl (by decide) rfl ?_
  refine fk_lconst (v := 0) hC dX6_byPoints_5 (by decide) ?_
  refine fk_lstore hC dX6_byPoints_6 (by decide) rfl ?_
  refine fk_iconst (v := (-1)) hC dX6_byPoints_8 (by decide) ?_
  refine fk_istore hC dX6_byPoints_9 (by decide) rfl ?_
  refine fk_iconst (v := 0) hC dX6_byPoints_11 (by decide) ?_
  refine fk_istore hC dX6_byPoints_12 (by decide) rfl ?_
  exact lp cn 0 none 0 rfl (Nat.zero_le _) (fun j hj => nomatch hj) rfl

