/-! ===== the model: a token, whole ===== -/
theorem wL_len : ∀ l ∈ wL, l.length ≤ 7 := by decide +kernel
theorem kindW_long {l : List Int} (h : 8 ≤ l.length) : kindW l = 14 := by
  have hn : l ∉ wL := fun q => by have := wL_len l q; omega
  unfold kindW
  rw [List.idxOf_eq_length hn]
  rfl
def valD (tx : Int → Int) (s k : Int) : Int := if k = 0 then 0 else if k = 1 then tx s - 48 else 10 * (tx s - 48) + (tx (s + 1) - 48)
theorem p32 : ∀ k : Nat, k ≤ 7 → (32 : Int) ^ k ≤ 34359738368 := by decide
theorem valD_step {tx : Int → Int} {s p : Int} (h : s ≤ p ∧ p - s < 2) : valD tx s (p + 1 - s) = 10 * valD tx s (p - s) + tx p - 48 := by
  rcases (show p = s ∨ p = s + 1 by omega) with rfl | rfl
  · unfold valD; rw [if_neg (by omega), if_pos (by omega), if_pos (by omega)]; omega
  · unfold valD; rw [if_neg (by omega), if_neg (by omega), if_neg (by omega), if_pos (by omega)]; omega
theorem valD_stay {tx : Int → Int} {s p : Int} (h : 2 ≤ p - s) : valD tx s (p + 1 - s) = valD tx s (p - s) := by
  unfold valD; rw [if_neg (by omega), if_neg (by omega), if_neg (by omega), if_neg (by omega)]
section MS2
variable {G : GT} {n : Nat} {h : Hp} {Q : PT}
theorem lp_s64 {bk : Int → Int} (hb : Bd bk (-1) 255) (ht : bk 1 ≤ 160) : ∀ (q : Nat) (p s v : Int) (h : Hp) (e : Nat → Int), h 45 = some (aO 9 (mF e)) → e 6 = p → e 7 = s → h 46 = some (aA 480 bk) → 0 ≤ s ∧ s ≤ p ∧ p ≤ bk 1 → (bk 1 - p).toNat = q →
    (∀ c ∈ seg (txB bk) s (p - s).toNat, 97 ≤ c ∧ c ≤ 122) → (p - s ≤ 8 → v = enc (seg (txB bk) s (p - s).toNat)) → 0 ≤ v ∧ v < 1152921504606846976 →
    (∀ h' v', (∀ c ∈ seg (txB bk) s (advF pL (txB bk) (bk 1) p - s).toNat, 97 ≤ c ∧ c ≤ 122) → (advF pL (txB bk) (bk 1) p - s ≤ 8 → v' = enc (seg (txB bk) s (advF pL (txB bk) (bk 1) p - s).toNat)) → 0 ≤ v' ∧ v' < 1152921504606846976 → h' 45 = some (aO 9 (mF (nu e 6 (advF pL (txB bk) (bk 1) p)))) → Fr (fun q => q = 45) h h' → At G mX9_scans 133 [vR 45, vJ v', vU] [] (0, 0, n) h' Q) → At G mX9_scans 64 [vR 45, vJ v, vU] [] (0, 0, n) h Q := by
  intro q
  induction q using Nat.strongRecOn with
  | ind q ih =>
    rintro p s v h e hM rfl rfl hB hp hq hc hv hv2 hQ
    have hM' := hM
    unfold mF at hM'
    have b2 := hb (264 + e 6)
    refine r_aload_n (pc := 64) dX9_scans_64 rfl <| r_bipush (pc := 65) dX9_scans_65 (by decide) <| r_bipush (pc := 67) dX9_scans_67 (by decide) <| cVi [_, _] (pc := 69) dX9_scans_69 k_X9_116 ⟨⟨Nat.le_of_ble_eq_true rfl, Nat.le_of_ble_eq_true rfl⟩, ⟨Nat.le_of_ble_eq_true rfl, Nat.le_of_ble_eq_true rfl⟩, Nat.le_of_ble_eq_true rfl⟩ ⟨rfl, rfl⟩ hM' ?_
    refine sp_isAt hM hB hb ht (by omega) (by omega) (by omega) (fun q1 => ?_) (fun q1 => ?_)
    · skip
      refine ⟨_, rfl, ?_⟩
      refine r_if_eq (pc := 72) 133 dX9_scans_72 (by decide) (by decide) (fun q => absurd q (by decide)) (fun _ => ?_)
      refine r_aload_n (pc := 75) dX9_scans_75 rfl <| r_getf (pc := 76) dX9_scans_76 fA_X9_89 hM' rfl <| r_aload_n (pc := 79) dX9_scans_79 rfl <| r_getf (pc := 80) dX9_scans_80 fA_X9_119 hM' rfl <| r_isub (pc := 83) dX9_scans_83 <| r_bipush (pc := 84) dX9_scans_84 (by decide) <| r_icmp_le (pc := 86) 93 dX9_scans_86 (by decide) (by omega) (by omega) (fun hc_86 => ?_) (fun hc_86 => ?_)
      · skip
        refine r_ldc2 (pc := 93) dX9_scans_93 cT_X9_125 <| r_lload_n (pc := 96) dX9_scans_96 rfl <| r_lmul (pc := 97) dX9_scans_97 <| r_aload_n (pc := 98) dX9_scans_98 rfl <| r_getf (pc := 99) dX9_scans_99 fA_X9_7 hM' rfl <| r_sipush (pc := 102) dX9_scans_102 (by decide) <| r_aload_n (pc := 105) dX9_scans_105 rfl <| r_getf (pc := 106) dX9_scans_106 fA_X9_89 hM' rfl <| r_iadd (pc := 109) dX9_scans_109 <| r_iald (pc := 110) dX9_scans_110 hB (by omega) (by decide) <| r_i2l (pc := 111) dX9_scans_111 (by omega) <| r_ladd (pc := 112) dX9_scans_112 <| r_ldc2 (pc := 113) dX9_scans_113 cT_X9_127 <| r_lsub (pc := 116) dX9_scans_116 <| r_lconst (pc := 117) (v := 1) dX9_scans_117 rfl <| r_ladd (pc := 118) dX9_scans_118 <| r_lstoren_1 (pc := 119) dX9_scans_119 rfl <| r_aload_n (pc := 120) dX9_scans_120 rfl <| r_dup (pc := 121) dX9_scans_121 rfl <| r_getf (pc := 122) dX9_scans_122 fA_X9_89 hM' rfl <| r_iconst (pc := 125) dX9_scans_125 <| r_iadd (pc := 126) dX9_scans_126 <| r_putf (pc := 127) dX9_scans_127 fP_X9_89 rfl rfl hM' rfl (fun h_127 hM' hF_127 => ?_)
        simp only [List.set_cons_zero, List.set_cons_succ] at hM'
        replace hB := hF_127.keep hB (by omega)
        refine r_goto (pc := 130) 64 dX9_scans_130 (by decide) <| ?_
        have hg : advF pL (txB bk) (bk 1) (e 6) = advF pL (txB bk) (bk 1) (e 6 + 1) := advF_go q1.1 (by simp only [pL, decide_eq_true_eq]; omega)
        have hs : seg (txB bk) (e 7) (e 6 + 1 - e 7).toNat = seg (txB bk) (e 7) (e 6 - e 7).toNat ++ [txB bk (e 6)] := by
          rw [show (e 6 + 1 - e 7).toNat = (e 6 - e 7).toNat + 1 by omega, seg_succ, show e 7 + (((e 6 - e 7).toNat : Nat) : Int) = e 6 by omega]
        have hc2 : ∀ c ∈ seg (txB bk) (e 7) (e 6 + 1 - e 7).toNat, 97 ≤ c ∧ c ≤ 122 := by
          rw [hs]
          intro c hm
          rcases List.mem_append.mp hm with hm | hm
          · exact hc c hm
          · rw [List.mem_singleton.mp hm]; exact q1.2
        have hl := enc_in _ hc
        rw [seg_len] at hl
        rw [hg] at hQ
        refine ih _ (by omega) (e 6 + 1) (e 7) _ _ (nu e 6 (e 6 + 1)) hM' rfl rfl hB (by omega) rfl hc2 ?_ ?_ (fun h2 v2 g1 g2 g3 h3 h4 => hQ h2 v2 g1 g2 g3 h3 (fun p hp => (h4 p hp).trans (hF_127 p hp)))
        · intro h8
          first
            | (exfalso; omega)
            | (rw [hs, enc_app, hv (by omega)])
        · first
            | (exact ⟨by omega, by omega⟩)
            | (have h7 : (e 6 - e 7).toNat ≤ 7 := by omega
               have h9 := p32 _ h7
               have hv3 := hv (by omega)
               simp only [txB] at q1
               omega)
      · skip
        refine r_lconst (pc := 89) (v := 0) dX9_scans_89 rfl <| r_goto (pc := 90) 119 dX9_scans_90 (by decide) <| r_lstoren_1 (pc := 119) dX9_scans_119 rfl <| r_aload_n (pc := 120) dX9_scans_120 rfl <| r_dup (pc := 121) dX9_scans_121 rfl <| r_getf (pc := 122) dX9_scans_122 fA_X9_89 hM' rfl <| r_iconst (pc := 125) dX9_scans_125 <| r_iadd (pc := 126) dX9_scans_126 <| r_putf (pc := 127) dX9_scans_127 fP_X9_89 rfl rfl hM' rfl (fun h_127 hM' hF_127 => ?_)
        simp only [List.set_cons_zero, List.set_cons_succ] at hM'
        replace hB := hF_127.keep hB (by omega)
        refine r_goto (pc := 130) 64 dX9_scans_130 (by decide) <| ?_
        have hg : advF pL (txB bk) (bk 1) (e 6) = advF pL (txB bk) (bk 1) (e 6 + 1) := advF_go q1.1 (by simp only [pL, decide_eq_true_eq]; omega)
        have hs : seg (txB bk) (e 7) (e 6 + 1 - e 7).toNat = seg (txB bk) (e 7) (e 6 - e 7).toNat ++ [txB bk (e 6)] := by
          rw [show (e 6 + 1 - e 7).toNat = (e 6 - e 7).toNat + 1 by omega, seg_succ, show e 7 + (((e 6 - e 7).toNat : Nat) : Int) = e 6 by omega]
        have hc2 : ∀ c ∈ seg (txB bk) (e 7) (e 6 + 1 - e 7).toNat, 97 ≤ c ∧ c ≤ 122 := by
          rw [hs]
          intro c hm
          rcases List.mem_append.mp hm with hm | hm
          · exact hc c hm
          · rw [List.mem_singleton.mp hm]; exact q1.2
        have hl := enc_in _ hc
        rw [seg_len] at hl
        rw [hg] at hQ
        refine ih _ (by omega) (e 6 + 1) (e 7) _ _ (nu e 6 (e 6 + 1)) hM' rfl rfl hB (by omega) rfl hc2 ?_ ?_ (fun h2 v2 g1 g2 g3 h3 h4 => hQ h2 v2 g1 g2 g3 h3 (fun p hp => (h4 p hp).trans (hF_127 p hp)))
        · intro h8
          first
            | (exfalso; omega)
            | (rw [hs, enc_app, hv (by omega)])
        · first
            | (exact ⟨by omega, by omega⟩)
            | (have h7 : (e 6 - e 7).toNat ≤ 7 := by omega
               have h9 := p32 _ h7
               have hv3 := hv (by omega)
               simp only [txB] at q1
               omega)
    · skip
      refine ⟨_, rfl, ?_⟩
      refine r_if_eq (pc := 72) 133 dX9_scans_72 (by decide) (by decide) (fun _ => ?_) (fun q => absurd q (by decide))
      have hg : advF pL (txB bk) (bk 1) (e 6) = e 6 := advF_end (by simp only [pL, decide_eq_true_eq]; omega)
      rw [hg] at hQ
      exact hQ h v hc hv hv2 hM' Fr.rf
theorem lp_s176 {bk : Int → Int} {l1 l2 : AV} (hb : Bd bk (-1) 255) (ht : bk 1 ≤ 160) : ∀ (q : Nat) (p s : Int) (h : Hp) (e : Nat → Int), h 45 = some (aO 9 (mF e)) → e 6 = p → e 7 = s → h 46 = some (aA 480 bk) → 0 ≤ s ∧ s ≤ p ∧ p ≤ bk 1 → (bk 1 - p).toNat = q → e 9 = valD (txB bk) s (p - s) →
    (∀ h', h' 45 = some (aO 9 (mF (nu (nu e 6 (advF pD (txB bk) (bk 1) p)) 9 (valD (txB bk) s (advF pD (txB bk) (bk 1) p - s))))) → Fr (fun q => q = 45) h h' → At G mX9_scans 248 [vR 45, l1, l2] [] (0, 0, n) h' Q) → At G mX9_scans 176 [vR 45, l1, l2] [] (0, 0, n) h Q := by
  intro q
  induction q using Nat.strongRecOn with
  | ind q ih =>
    rintro p s h e hM rfl rfl hB hp hq hv hQ
    have hM' := hM
    unfold mF at hM'
    have b2 := hb (264 + e 6)
    have b3 := hb (264 + e 7)
    have b4 := hb (264 + (e 7 + 1))
    have bv : -1000 ≤ e 9 ∧ e 9 ≤ 5000 := by rw [hv]; unfold valD; simp only [txB]; (repeat' split) <;> omega
    refine r_aload_n (pc := 176) dX9_scans_176 rfl <| r_bipush (pc := 177) dX9_scans_177 (by decide) <| r_bipush (pc := 179) dX9_scans_179 (by decide) <| cVi [_, _] (pc := 181) dX9_scans_181 k_X9_116 ⟨⟨Nat.le_of_ble_eq_true rfl, Nat.le_of_ble_eq_true rfl⟩, ⟨Nat.le_of_ble_eq_true rfl, Nat.le_of_ble_eq_true rfl⟩, Nat.le_of_ble_eq_true rfl⟩ ⟨rfl, rfl⟩ hM' ?_
    refine sp_isAt hM hB hb ht (by omega) (by omega) (by omega) (fun q1 => ?_) (fun q1 => ?_)
    · skip
      refine ⟨_, rfl, ?_⟩
      refine r_if_eq (pc := 184) 248 dX9_scans_184 (by decide) (by decide) (fun q => absurd q (by decide)) (fun _ => ?_)
      refine r_aload_n (pc := 187) dX9_scans_187 rfl <| r_aload_n (pc := 188) dX9_scans_188 rfl <| r_getf (pc := 189) dX9_scans_189 fA_X9_89 hM' rfl <| r_aload_n (pc := 192) dX9_scans_192 rfl <| r_getf (pc := 193) dX9_scans_193 fA_X9_119 hM' rfl <| r_isub (pc := 196) dX9_scans_196 <| r_iconst (pc := 197) dX9_scans_197 <| r_icmp_ge (pc := 198) 228 dX9_scans_198 (by decide) (by omega) (by omega) (fun hc_198 => ?_) (fun hc_198 => ?_)
      · skip
        refine r_aload_n (pc := 228) dX9_scans_228 rfl <| r_getf (pc := 229) dX9_scans_229 fA_X9_133 hM' rfl <| r_putf (pc := 232) dX9_scans_232 fP_X9_133 rfl rfl hM' rfl (fun h_232 hM' hF_232 => ?_)
        simp only [List.set_cons_zero, List.set_cons_succ] at hM'
        replace hB := hF_232.keep hB (by omega)
        refine r_aload_n (pc := 235) dX9_scans_235 rfl <| r_dup (pc := 236) dX9_scans_236 rfl <| r_getf (pc := 237) dX9_scans_237 fA_X9_89 hM' rfl <| r_iconst (pc := 240) dX9_scans_240 <| r_iadd (pc := 241) dX9_scans_241 <| r_putf (pc := 242) dX9_scans_242 fP_X9_89 rfl rfl hM' rfl (fun h_242 hM' hF_242 => ?_)
        simp only [List.set_cons_zero, List.set_cons_succ] at hM'
        replace hB := hF_242.keep hB (by omega)
        refine r_goto (pc := 245) 176 dX9_scans_245 (by decide) <| ?_
        have hg : advF pD (txB bk) (bk 1) (e 6) = advF pD (txB bk) (bk 1) (e 6 + 1) := advF_go q1.1 (by simp only [pD, decide_eq_true_eq]; omega)
        rw [hg] at hQ
        first
          | exact ih _ (by omega) (e 6 + 1) (e 7) _ (nu (nu e 9 (10 * e 9 + bk (264 + e 6) - 48)) 6 (e 6 + 1)) hM' rfl rfl hB (by omega) rfl (show 10 * e 9 + bk (264 + e 6) - 48 = valD (txB bk) (e 7) (e 6 + 1 - e 7) by rw [valD_step (by omega), ← hv]) (fun h2 h3 h4 => hQ h2 h3 (fun p hp => (h4 p hp).trans ((hF_242 p hp).trans (hF_232 p hp))))
          | exact ih _ (by omega) (e 6 + 1) (e 7) _ (nu (nu e 9 (e 9)) 6 (e 6 + 1)) hM' rfl rfl hB (by omega) rfl (show e 9 = valD (txB bk) (e 7) (e 6 + 1 - e 7) by rw [valD_stay (by omega), ← hv]) (fun h2 h3 h4 => hQ h2 h3 (fun p hp => (h4 p hp).trans ((hF_242 p hp).trans (hF_232 p hp))))
      · skip
        refine r_bipush (pc := 201) dX9_scans_201 (by decide) <| r_aload_n (pc := 203) dX9_scans_203 rfl <| r_getf (pc := 204) dX9_scans_204 fA_X9_133 hM' rfl <| r_imul (pc := 207) dX9_scans_207 <| r_aload_n (pc := 208) dX9_scans_208 rfl <| r_getf (pc := 209) dX9_scans_209 fA_X9_7 hM' rfl <| r_sipush (pc := 212) dX9_scans_212 (by decide) <| r_aload_n (pc := 215) dX9_scans_215 rfl <| r_getf (pc := 216) dX9_scans_216 fA_X9_89 hM' rfl <| r_iadd (pc := 219) dX9_scans_219 <| r_iald (pc := 220) dX9_scans_220 hB (by omega) (by decide) <| r_iadd (pc := 221) dX9_scans_221 <| r_bipush (pc := 222) dX9_scans_222 (by decide) <| r_isub (pc := 224) dX9_scans_224 <| r_goto (pc := 225) 232 dX9_scans_225 (by decide) <| r_putf (pc := 232) dX9_scans_232 fP_X9_133 rfl rfl hM' rfl (fun h_232 hM' hF_232 => ?_)
        simp only [List.set_cons_zero, List.set_cons_succ] at hM'
        replace hB := hF_232.keep hB (by omega)
        refine r_aload_n (pc := 235) dX9_scans_235 rfl <| r_dup (pc := 236) dX9_scans_236 rfl <| r_getf (pc := 237) dX9_scans_237 fA_X9_89 hM' rfl <| r_iconst (pc := 240) dX9_scans_240 <| r_iadd (pc := 241) dX9_scans_241 <| r_putf (pc := 242) dX9_scans_242 fP_X9_89 rfl rfl hM' rfl (fun h_242 hM' hF_242 => ?_)
        simp only [List.set_cons_zero, List.set_cons_succ] at hM'
        replace hB := hF_242.keep hB (by omega)
        refine r_goto (pc := 245) 176 dX9_scans_245 (by decide) <| ?_
        have hg : advF pD (txB bk) (bk 1) (e 6) = advF pD (txB bk) (bk 1) (e 6 + 1) := advF_go q1.1 (by simp only [pD, decide_eq_true_eq]; omega)
        rw [hg] at hQ
        first
          | exact ih _ (by omega) (e 6 + 1) (e 7) _ (nu (nu e 9 (10 * e 9 + bk (264 + e 6) - 48)) 6 (e 6 + 1)) hM' rfl rfl hB (by omega) rfl (show 10 * e 9 + bk (264 + e 6) - 48 = valD (txB bk) (e 7) (e 6 + 1 - e 7) by rw [valD_step (by omega), ← hv]) (fun h2 h3 h4 => hQ h2 h3 (fun p hp => (h4 p hp).trans ((hF_242 p hp).trans (hF_232 p hp))))
          | exact ih _ (by omega) (e 6 + 1) (e 7) _ (nu (nu e 9 (e 9)) 6 (e 6 + 1)) hM' rfl rfl hB (by omega) rfl (show e 9 = valD (txB bk) (e 7) (e 6 + 1 - e 7) by rw [valD_stay (by omega), ← hv]) (fun h2 h3 h4 => hQ h2 h3 (fun p hp => (h4 p hp).trans ((hF_242 p hp).trans (hF_232 p hp))))
    · skip
      refine ⟨_, rfl, ?_⟩
      refine r_if_eq (pc := 184) 248 dX9_scans_184 (by decide) (by decide) (fun _ => ?_) (fun q => absurd q (by decide))
      have hg : advF pD (txB bk) (bk 1) (e 6) = e 6 := advF_end (by simp only [pD, decide_eq_true_eq]; omega)
      rw [hg, ← hv] at hQ
      exact hQ h hM' Fr.rf
theorem lp_s133 {v : Int} {l2 : AV} {e : Nat → Int} {bk : Int → Int} (hM : h 45 = some (aO 9 (mF e))) (hb : 0 ≤ e 7 ∧ e 7 ≤ e 6 ∧ e 6 ≤ 160) (hv : 0 ≤ v ∧ v < 1152921504606846976) (hQ : ∀ h', h' 45 = some (aO 9 (mF (nu e 8 (if 7 < e 6 - e 7 then 1 else mtok (kindV v))))) → Fr (fun q => q = 45) h h' → Q none n h') : At G mX9_scans 133 [vR 45, vJ v, l2] [] (0, 0, n) h Q := by
  have hM' := hM
  unfold mF at hM'
  refine r_aload_n (pc := 133) dX9_scans_133 rfl <| r_aload_n (pc := 134) dX9_scans_134 rfl <| r_getf (pc := 135) dX9_scans_135 fA_X9_89 hM' rfl <| r_aload_n (pc := 138) dX9_scans_138 rfl <| r_getf (pc := 139) dX9_scans_139 fA_X9_119 hM' rfl <| r_isub (pc := 142) dX9_scans_142 <| r_bipush (pc := 143) dX9_scans_143 (by decide) <| r_icmp_le (pc := 145) 152 dX9_scans_145 (by decide) (by omega) (by omega) (fun hc_145 => ?_) (fun hc_145 => ?_)
  · skip
    refine r_lload_n (pc := 152) dX9_scans_152 rfl <| cSi [_] (pc := 153) dX9_scans_153 k_X9_129 ⟨⟨Nat.le_of_ble_eq_true rfl, Nat.le_of_ble_eq_true rfl⟩, ⟨Nat.le_of_ble_eq_true rfl, Nat.le_of_ble_eq_true rfl⟩, Nat.le_of_ble_eq_true rfl⟩ ⟨rfl, rfl⟩ ?_
    refine sp_wordOf hv ?_
    refine ⟨_, rfl, ?_⟩
    refine r_putf (pc := 156) dX9_scans_156 fP_X9_122 rfl rfl hM' rfl (fun h_156 hM' hF_156 => ?_)
    simp only [List.set_cons_zero, List.set_cons_succ] at hM'
    refine r_vret (pc := 159) dX9_scans_159 rfl ⟨Nat.le_of_ble_eq_true rfl, Nat.le_of_ble_eq_true rfl⟩ <| ?_
    refine hQ _ ?_ hF_156
    first | rw [if_pos (by omega)] | rw [if_neg (by omega)]
    exact hM'
  · skip
    refine r_iconst (pc := 148) dX9_scans_148 <| r_goto (pc := 149) 156 dX9_scans_149 (by decide) <| r_putf (pc := 156) dX9_scans_156 fP_X9_122 rfl rfl hM' rfl (fun h_156 hM' hF_156 => ?_)
    simp only [List.set_cons_zero, List.set_cons_succ] at hM'
    refine r_vret (pc := 159) dX9_scans_159 rfl ⟨Nat.le_of_ble_eq_true rfl, Nat.le_of_ble_eq_true rfl⟩ <| ?_
    refine hQ _ ?_ hF_156
    first | rw [if_pos (by omega)] | rw [if_neg (by omega)]
    exact hM'
theorem lp_s248 {l1 l2 : AV} {e : Nat → Int} {bk : Int → Int} (hM : h 45 = some (aO 9 (mF e))) (hb : 0 ≤ e 7 ∧ e 7 ≤ e 6 ∧ e 6 ≤ 160) (hQ : ∀ h', h' 45 = some (aO 9 (mF (nu e 8 (if 2 < e 6 - e 7 then 1 else 2)))) → Fr (fun q => q = 45) h h' → Q none n h') : At G mX9_scans 248 [vR 45, l1, l2] [] (0, 0, n) h Q := by
  have hM' := hM
  unfold mF at hM'
  refine r_aload_n (pc := 248) dX9_scans_248 rfl <| r_aload_n (pc := 249) dX9_scans_249 rfl <| r_getf (pc := 250) dX9_scans_250 fA_X9_89 hM' rfl <| r_aload_n (pc := 253) dX9_scans_253 rfl <| r_getf (pc := 254) dX9_scans_254 fA_X9_119 hM' rfl <| r_isub (pc := 257) dX9_scans_257 <| r_iconst (pc := 258) dX9_scans_258 <| r_icmp_le (pc := 259) 266 dX9_scans_259 (by decide) (by omega) (by omega) (fun hc_259 => ?_) (fun hc_259 => ?_)
  · skip
    refine r_iconst (pc := 266) dX9_scans_266 <| r_putf (pc := 267) dX9_scans_267 fP_X9_122 rfl rfl hM' rfl (fun h_267 hM' hF_267 => ?_)
    simp only [List.set_cons_zero, List.set_cons_succ] at hM'
    refine r_vret (pc := 270) dX9_scans_270 rfl ⟨Nat.le_of_ble_eq_true rfl, Nat.le_of_ble_eq_true rfl⟩ <| ?_
    refine hQ _ ?_ hF_267
    first | rw [if_pos (by omega)] | rw [if_neg (by omega)]
    exact hM'
  · skip
    refine r_iconst (pc := 262) dX9_scans_262 <| r_goto (pc := 263) 267 dX9_scans_263 (by decide) <| r_putf (pc := 267) dX9_scans_267 fP_X9_122 rfl rfl hM' rfl (fun h_267 hM' hF_267 => ?_)
    simp only [List.set_cons_zero, List.set_cons_succ] at hM'
    refine r_vret (pc := 270) dX9_scans_270 rfl ⟨Nat.le_of_ble_eq_true rfl, Nat.le_of_ble_eq_true rfl⟩ <| ?_
    refine hQ _ ?_ hF_267
    first | rw [if_pos (by omega)] | rw [if_neg (by omega)]
    exact hM'
end MS2

