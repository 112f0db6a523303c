/-! one step of the law (written by gen/p66.py) -/
theorem law_step {G : gG} {E : gEnv} {Q : State → Prop} {b L : Nat} {xs : Nat → Int32} {k : Nat} {M : mM} {S : gS} (cx : gC G E code 4 "GossipNodesLaw" 8) (hX : va_X b L xs E.2.2.2.2.1 E.2.2.2.2.1.heap) (hb : b < G.2.1 ∧ b < E.2.2.2.2.1.heap.size) (hL : L ≤ 2049) (hrc : 1000 ≤ E.2.2.2.1.cells) (hrs : 10000 ≤ E.2.2.2.1.slots) (hk : 5 + 4 * k ≤ L) (hC : CR G M 0 0 none S) (hD : DR G M (fun _ => false) S) (hI : mInv G.1 (6000 * k) (fun _ => false) M) (hn : ∀ (M' : mM) (S' : gS), CR G M' 0 0 none S' → DR G M' (fun _ => false) S' → mInv G.1 (6000 * (k + 1)) (fun _ => false) M' → gZ G E 1000 10000 Q (gTt G) 500 [some (.inr (some (99, b, 0))), some (.inr (some (0, 0, 0))), some (.inr (some (20, 0, 0))), some (.inl (nI (1 + 4 * k)))] [] S') : gZ G E 1000 10000 Q (gTt G) 36 [some (.inr (some (99, b, 0))), some (.inr (some (0, 0, 0))), some (.inr (some (20, 0, 0))), some (.inl (nI (1 + 4 * k)))] [] S := by
  have hDD : 6000 * k + 6000 < 2 ^ 30 := by omega
  refine gz_aload_n (pc := 36) cx qd_L_law_36 rfl rfl ?_
  refine gz_iload_n (pc := 37) cx qd_L_law_37 rfl rfl ?_
  refine gz_sld (j := 1 + 4 * k) (pc := 38) cx hX hb (by omega) qd_L_law_38 rfl (by omega) ?_
  refine gz_bipush (v := 15) (pc := 39) cx qd_L_law_39 (by decide) ?_
  refine gz_iand (pc := 41) cx qd_L_law_41 ?_
  refine gz_switch (pc := 42) cx 13 (fun i => [112, 145, 168, 191, 250, 273, 296, 319, 332, 345, 378, 421, 454, 487].getD i 0) 500 qd_L_law_42 (by decide) (by intro i hi; match i, hi with
    | 0, _ => exact ⟨_, rfl, by decide⟩
    | 1, _ => exact ⟨_, rfl, by decide⟩
    | 2, _ => exact ⟨_, rfl, by decide⟩
    | 3, _ => exact ⟨_, rfl, by decide⟩
    | 4, _ => exact ⟨_, rfl, by decide⟩
    | 5, _ => exact ⟨_, rfl, by decide⟩
    | 6, _ => exact ⟨_, rfl, by decide⟩
    | 7, _ => exact ⟨_, rfl, by decide⟩
    | 8, _ => exact ⟨_, rfl, by decide⟩
    | 9, _ => exact ⟨_, rfl, by decide⟩
    | 10, _ => exact ⟨_, rfl, by decide⟩
    | 11, _ => exact ⟨_, rfl, by decide⟩
    | 12, _ => exact ⟨_, rfl, by decide⟩
    | 13, _ => exact ⟨_, rfl, by decide⟩
    | i + 14, hi => exact absurd hi (by omega)) (by decide) (fun i hi hx => ?_) (fun hx => ?_)
  · match i, hi with
    | 0, _ =>
      refine gz_aload_n (pc := 112) cx qd_L_law_112 rfl rfl ?_
      refine gz_aload_n (pc := 113) cx qd_L_law_113 rfl rfl ?_
      refine gz_iload_n (pc := 114) cx qd_L_law_114 rfl rfl ?_
      refine gz_iconst (v := 1) (pc := 115) cx qd_L_law_115 (by decide) ?_
      refine gz_iadd (pc := 116) cx qd_L_law_116 ?_
      refine gz_sld (j := 1 + 4 * k + 1) (pc := 117) cx hX hb (by omega) qd_L_law_117 (nI_add (1 + 4 * k) 1) (by omega) ?_
      refine gz_aload_n (pc := 118) cx qd_L_law_118 rfl rfl ?_
      refine gz_iload_n (pc := 119) cx qd_L_law_119 rfl rfl ?_
      refine gz_iconst (v := 2) (pc := 120) cx qd_L_law_120 (by decide) ?_
      refine gz_iadd (pc := 121) cx qd_L_law_121 ?_
      refine gz_sld (j := 1 + 4 * k + 2) (pc := 122) cx hX hb (by omega) qd_L_law_122 (nI_add (1 + 4 * k) 2) (by omega) ?_
      refine gz_callV (pc := 123) cx qv_L_21 qd_L_law_123 (gc_G_start hC) (by decide) rfl gm_G rfl rfl rfl rfl (Nat.le_of_ble_eq_true rfl) ⟨hrc, hrs⟩ ?_
      rintro _ S1 ⟨rfl, c1, f1⟩
      have d1 := hD.fr f1 c1.1.1
      refine gz_aload_n (pc := 126) cx qd_L_law_126 rfl rfl ?_
      refine gz_aload_n (pc := 127) cx qd_L_law_127 rfl rfl ?_
      refine gz_iload_n (pc := 128) cx qd_L_law_128 rfl rfl ?_
      refine gz_iconst (v := 1) (pc := 129) cx qd_L_law_129 (by decide) ?_
      refine gz_iadd (pc := 130) cx qd_L_law_130 ?_
      refine gz_sld (j := 1 + 4 * k + 1) (pc := 131) cx hX hb (by omega) qd_L_law_131 (nI_add (1 + 4 * k) 1) (by omega) ?_
      refine gz_aload_n (pc := 132) cx qd_L_law_132 rfl rfl ?_
      refine gz_iload_n (pc := 133) cx qd_L_law_133 rfl rfl ?_
      refine gz_iconst (v := 2) (pc := 134) cx qd_L_law_134 (by decide) ?_
      refine gz_iadd (pc := 135) cx qd_L_law_135 ?_
      refine gz_sld (j := 1 + 4 * k + 2) (pc := 136) cx hX hb (by omega) qd_L_law_136 (nI_add (1 + 4 * k) 2) (by omega) ?_
      refine gz_callV (pc := 137) cx qv_L_25 qd_L_law_137 (gc_Z_start d1 hI) (by decide) rfl gm_Z rfl rfl rfl rfl (Nat.le_of_ble_eq_true rfl) ⟨hrc, hrs⟩ ?_
      rintro _ S2 ⟨rfl, d2, f2⟩
      have c2 := c1.fc f2 d2.1
      refine gz_icmp_eq (tgt := 500) (pc := 140) cx qd_L_law_140 (by decide) (fun _ => ?_) (fun h140 => absurd rfl h140)
      exact hn _ _ c2 d2 ((oStart_inv hI).mono (by omega))
    | 1, _ =>
      refine gz_aload_n (pc := 145) cx qd_L_law_145 rfl rfl ?_
      refine gz_aload_n (pc := 146) cx qd_L_law_146 rfl rfl ?_
      refine gz_iload_n (pc := 147) cx qd_L_law_147 rfl rfl ?_
      refine gz_iconst (v := 1) (pc := 148) cx qd_L_law_148 (by decide) ?_
      refine gz_iadd (pc := 149) cx qd_L_law_149 ?_
      refine gz_sld (j := 1 + 4 * k + 1) (pc := 150) cx hX hb (by omega) qd_L_law_150 (nI_add (1 + 4 * k) 1) (by omega) ?_
      refine gz_callV (pc := 151) cx qv_L_26 qd_L_law_151 (gc_G_crash hC) (by decide) rfl gm_G rfl rfl rfl rfl (Nat.le_of_ble_eq_true rfl) ⟨hrc, hrs⟩ ?_
      rintro _ S1 ⟨rfl, c1, f1⟩
      have d1 := hD.fr f1 c1.1.1
      refine gz_aload_n (pc := 154) cx qd_L_law_154 rfl rfl ?_
      refine gz_aload_n (pc := 155) cx qd_L_law_155 rfl rfl ?_
      refine gz_iload_n (pc := 156) cx qd_L_law_156 rfl rfl ?_
      refine gz_iconst (v := 1) (pc := 157) cx qd_L_law_157 (by decide) ?_
      refine gz_iadd (pc := 158) cx qd_L_law_158 ?_
      refine gz_sld (j := 1 + 4 * k + 1) (pc := 159) cx hX hb (by omega) qd_L_law_159 (nI_add (1 + 4 * k) 1) (by omega) ?_
      refine gz_callV (pc := 160) cx qv_L_30 qd_L_law_160 (gc_Z_crash d1) (by decide) rfl gm_Z rfl rfl rfl rfl (Nat.le_of_ble_eq_true rfl) ⟨hrc, hrs⟩ ?_
      rintro _ S2 ⟨rfl, d2, f2⟩
      have c2 := c1.fc f2 d2.1
      refine gz_icmp_eq (tgt := 500) (pc := 163) cx qd_L_law_163 (by decide) (fun _ => ?_) (fun h163 => absurd rfl h163)
      exact hn _ _ c2 d2 ((oCrash_inv hI).mono (by omega))
    | 2, _ =>
      refine gz_aload_n (pc := 168) cx qd_L_law_168 rfl rfl ?_
      refine gz_aload_n (pc := 169) cx qd_L_law_169 rfl rfl ?_
      refine gz_iload_n (pc := 170) cx qd_L_law_170 rfl rfl ?_
      refine gz_iconst (v := 1) (pc := 171) cx qd_L_law_171 (by decide) ?_
      refine gz_iadd (pc := 172) cx qd_L_law_172 ?_
      refine gz_sld (j := 1 + 4 * k + 1) (pc := 173) cx hX hb (by omega) qd_L_law_173 (nI_add (1 + 4 * k) 1) (by omega) ?_
      refine gz_callV (pc := 174) cx qv_L_31 qd_L_law_174 (gc_G_leave hC) (by decide) rfl gm_G rfl rfl rfl rfl (Nat.le_of_ble_eq_true rfl) ⟨hrc, hrs⟩ ?_
      rintro _ S1 ⟨rfl, c1, f1⟩
      have d1 := hD.fr f1 c1.1.1
      refine gz_aload_n (pc := 177) cx qd_L_law_177 rfl rfl ?_
      refine gz_aload_n (pc := 178) cx qd_L_law_178 rfl rfl ?_
      refine gz_iload_n (pc := 179) cx qd_L_law_179 rfl rfl ?_
      refine gz_iconst (v := 1) (pc := 180) cx qd_L_law_180 (by decide) ?_
      refine gz_iadd (pc := 181) cx qd_L_law_181 ?_
      refine gz_sld (j := 1 + 4 * k + 1) (pc := 182) cx hX hb (by omega) qd_L_law_182 (nI_add (1 + 4 * k) 1) (by omega) ?_
      refine gz_callV (pc := 183) cx qv_L_34 qd_L_law_183 (gc_Z_leave d1 hI) (by decide) rfl gm_Z rfl rfl rfl rfl (Nat.le_of_ble_eq_true rfl) ⟨hrc, hrs⟩ ?_
      rintro _ S2 ⟨rfl, d2, f2⟩
      have c2 := c1.fc f2 d2.1
      refine gz_icmp_eq (tgt := 500) (pc := 186) cx qd_L_law_186 (by decide) (fun _ => ?_) (fun h186 => absurd rfl h186)
      exact hn _ _ c2 d2 ((oLeave_inv hI).mono (by omega))
    | 3, _ =>
      refine gz_aload_n (pc := 191) cx qd_L_law_191 rfl rfl ?_
      refine gz_aload_n (pc := 192) cx qd_L_law_192 rfl rfl ?_
      refine gz_iload_n (pc := 193) cx qd_L_law_193 rfl rfl ?_
      refine gz_iconst (v := 1) (pc := 194) cx qd_L_law_194 (by decide) ?_
      refine gz_iadd (pc := 195) cx qd_L_law_195 ?_
      refine gz_sld (j := 1 + 4 * k + 1) (pc := 196) cx hX hb (by omega) qd_L_law_196 (nI_add (1 + 4 * k) 1) (by omega) ?_
      refine gz_aload_n (pc := 197) cx qd_L_law_197 rfl rfl ?_
      refine gz_iload_n (pc := 198) cx qd_L_law_198 rfl rfl ?_
      refine gz_iconst (v := 2) (pc := 199) cx qd_L_law_199 (by decide) ?_
      refine gz_iadd (pc := 200) cx qd_L_law_200 ?_
      refine gz_sld (j := 1 + 4 * k + 2) (pc := 201) cx hX hb (by omega) qd_L_law_201 (nI_add (1 + 4 * k) 2) (by omega) ?_
      refine gz_aload_n (pc := 202) cx qd_L_law_202 rfl rfl ?_
      refine gz_iload_n (pc := 203) cx qd_L_law_203 rfl rfl ?_
      refine gz_iconst (v := 3) (pc := 204) cx qd_L_law_204 (by decide) ?_
      refine gz_iadd (pc := 205) cx qd_L_law_205 ?_
      refine gz_sld (j := 1 + 4 * k + 3) (pc := 206) cx hX hb (by omega) qd_L_law_206 (nI_add (1 + 4 * k) 3) (by omega) ?_
      refine gz_if_eq (tgt := 214) (pc := 207) cx qd_L_law_207 (by decide) (fun h207 => ?_) (fun h207 => ?_)
      · refine gz_iconst (v := 0) (pc := 214) cx qd_L_law_214 (by decide) ?_
        refine gz_callV (pc := 215) cx qv_L_35 qd_L_law_215 (gc_G_cut hC (Or.inl rfl) (fun a c ha hc => (hI.2.2.2.1 a c ha hc).2)) (by decide) rfl gm_G rfl rfl rfl rfl (Nat.le_of_ble_eq_true rfl) ⟨hrc, hrs⟩ ?_
        rintro _ S1 ⟨rfl, c1, f1⟩
        have d1 := hD.fr f1 c1.1.1
        refine gz_aload_n (pc := 218) cx qd_L_law_218 rfl rfl ?_
        refine gz_aload_n (pc := 219) cx qd_L_law_219 rfl rfl ?_
        refine gz_iload_n (pc := 220) cx qd_L_law_220 rfl rfl ?_
        refine gz_iconst (v := 1) (pc := 221) cx qd_L_law_221 (by decide) ?_
        refine gz_iadd (pc := 222) cx qd_L_law_222 ?_
        refine gz_sld (j := 1 + 4 * k + 1) (pc := 223) cx hX hb (by omega) qd_L_law_223 (nI_add (1 + 4 * k) 1) (by omega) ?_
        refine gz_aload_n (pc := 224) cx qd_L_law_224 rfl rfl ?_
        refine gz_iload_n (pc := 225) cx qd_L_law_225 rfl rfl ?_
        refine gz_iconst (v := 2) (pc := 226) cx qd_L_law_226 (by decide) ?_
        refine gz_iadd (pc := 227) cx qd_L_law_227 ?_
        refine gz_sld (j := 1 + 4 * k + 2) (pc := 228) cx hX hb (by omega) qd_L_law_228 (nI_add (1 + 4 * k) 2) (by omega) ?_
        refine gz_aload_n (pc := 229) cx qd_L_law_229 rfl rfl ?_
        refine gz_iload_n (pc := 230) cx qd_L_law_230 rfl rfl ?_
        refine gz_iconst (v := 3) (pc := 231) cx qd_L_law_231 (by decide) ?_
        refine gz_iadd (pc := 232) cx qd_L_law_232 ?_
        refine gz_sld (j := 1 + 4 * k + 3) (pc := 233) cx hX hb (by omega) qd_L_law_233 (nI_add (1 + 4 * k) 3) (by omega) ?_
        refine gz_if_eq (tgt := 241) (pc := 234) cx qd_L_law_234 (by decide) (fun _ => ?_) (fun h234 => absurd h207 h234)
        refine gz_iconst (v := 0) (pc := 241) cx qd_L_law_241 (by decide) ?_
        refine gz_callV (pc := 242) cx qv_L_39 qd_L_law_242 (gc_Z_cut d1 hI (Or.inl rfl)) (by decide) rfl gm_Z rfl rfl rfl rfl (Nat.le_of_ble_eq_true rfl) ⟨hrc, hrs⟩ ?_
        rintro _ S2 ⟨rfl, d2, f2⟩
        have c2 := c1.fc f2 d2.1
        refine gz_icmp_eq (tgt := 500) (pc := 245) cx qd_L_law_245 (by decide) (fun _ => ?_) (fun h245 => absurd rfl h245)
        exact hn _ _ c2 d2 ((oCut_inv hI (Or.inl rfl)).mono (by omega))
      · refine gz_iconst (v := 1) (pc := 210) cx qd_L_law_210 (by decide) ?_
        refine gz_goto (tgt := 215) (pc := 211) cx qd_L_law_211 (by decide) ?_
        refine gz_callV (pc := 215) cx qv_L_35 qd_L_law_215 (gc_G_cut hC (Or.inr rfl) (fun a c ha hc => (hI.2.2.2.1 a c ha hc).2)) (by decide) rfl gm_G rfl rfl rfl rfl (Nat.le_of_ble_eq_true rfl) ⟨hrc, hrs⟩ ?_
        rintro _ S1 ⟨rfl, c1, f1⟩
        have d1 := hD.fr f1 c1.1.1
        refine gz_aload_n (pc := 218) cx qd_L_law_218 rfl rfl ?_
        refine gz_aload_n (pc := 219) cx qd_L_law_219 rfl rfl ?_
        refine gz_iload_n (pc := 220) cx qd_L_law_220 rfl rfl ?_
        refine gz_iconst (v := 1) (pc := 221) cx qd_L_law_221 (by decide) ?_
        refine gz_iadd (pc := 222) cx qd_L_law_222 ?_
        refine gz_sld (j := 1 + 4 * k + 1) (pc := 223) cx hX hb (by omega) qd_L_law_223 (nI_add (1 + 4 * k) 1) (by omega) ?_
        refine gz_aload_n (pc := 224) cx qd_L_law_224 rfl rfl ?_
        refine gz_iload_n (pc := 225) cx qd_L_law_225 rfl rfl ?_
        refine gz_iconst (v := 2) (pc := 226) cx qd_L_law_226 (by decide) ?_
        refine gz_iadd (pc := 227) cx qd_L_law_227 ?_
        refine gz_sld (j := 1 + 4 * k + 2) (pc := 228) cx hX hb (by omega) qd_L_law_228 (nI_add (1 + 4 * k) 2) (by omega) ?_
        refine gz_aload_n (pc := 229) cx qd_L_law_229 rfl rfl ?_
        refine gz_iload_n (pc := 230) cx qd_L_law_230 rfl rfl ?_
        refine gz_iconst (v := 3) (pc := 231) cx qd_L_law_231 (by decide) ?_
        refine gz_iadd (pc := 232) cx qd_L_law_232 ?_
        refine gz_sld (j := 1 + 4 * k + 3) (pc := 233) cx hX hb (by omega) qd_L_law_233 (nI_add (1 + 4 * k) 3) (by omega) ?_
        refine gz_if_eq (tgt := 241) (pc := 234) cx qd_L_law_234 (by decide) (fun h234 => absurd h234 h207) (fun _ => ?_)
        refine gz_iconst (v := 1) (pc := 237) cx qd_L_law_237 (by decide) ?_
        refine gz_goto (tgt := 242) (pc := 238) cx qd_L_law_238 (by decide) ?_
        refine gz_callV (pc := 242) cx qv_L_39 qd_L_law_242 (gc_Z_cut d1 hI (Or.inr rfl)) (by decide) rfl gm_Z rfl rfl rfl rfl (Nat.le_of_ble_eq_true rfl) ⟨hrc, hrs⟩ ?_
        rintro _ S2 ⟨rfl, d2, f2⟩
        have c2 := c1.fc f2 d2.1
        refine gz_icmp_eq (tgt := 500) (pc := 245) cx qd_L_law_245 (by decide) (fun _ => ?_) (fun h245 => absurd rfl h245)
        exact hn _ _ c2 d2 ((oCut_inv hI (Or.inr rfl)).mono (by omega))
    | 4, _ =>
      refine gz_aload_n (pc := 250) cx qd_L_law_250 rfl rfl ?_
      refine gz_aload_n (pc := 251) cx qd_L_law_251 rfl rfl ?_
      refine gz_iload_n (pc := 252) cx qd_L_law_252 rfl rfl ?_
      refine gz_iconst (v := 1) (pc := 253) cx qd_L_law_253 (by decide) ?_
      refine gz_iadd (pc := 254) cx qd_L_law_254 ?_
      refine gz_sld (j := 1 + 4 * k + 1) (pc := 255) cx hX hb (by omega) qd_L_law_255 (nI_add (1 + 4 * k) 1) (by omega) ?_
      refine gz_callV (pc := 256) cx qv_L_40 qd_L_law_256 (gc_G_drop hC) (by decide) rfl gm_G rfl rfl rfl rfl (Nat.le_of_ble_eq_true rfl) ⟨hrc, hrs⟩ ?_
      rintro _ S1 ⟨rfl, c1, f1⟩
      have d1 := hD.fr f1 c1.1.1
      refine gz_aload_n (pc := 259) cx qd_L_law_259 rfl rfl ?_
      refine gz_aload_n (pc := 260) cx qd_L_law_260 rfl rfl ?_
      refine gz_iload_n (pc := 261) cx qd_L_law_261 rfl rfl ?_
      refine gz_iconst (v := 1) (pc := 262) cx qd_L_law_262 (by decide) ?_
      refine gz_iadd (pc := 263) cx qd_L_law_263 ?_
      refine gz_sld (j := 1 + 4 * k + 1) (pc := 264) cx hX hb (by omega) qd_L_law_264 (nI_add (1 + 4 * k) 1) (by omega) ?_
      refine gz_callV (pc := 265) cx qv_L_43 qd_L_law_265 (gc_Z_drop d1) (by decide) rfl gm_Z rfl rfl rfl rfl (Nat.le_of_ble_eq_true rfl) ⟨hrc, hrs⟩ ?_
      rintro _ S2 ⟨rfl, d2, f2⟩
      have c2 := c1.fc f2 d2.1
      refine gz_icmp_eq (tgt := 500) (pc := 268) cx qd_L_law_268 (by decide) (fun _ => ?_) (fun h268 => absurd rfl h268)
      exact hn _ _ c2 d2 ((oDrop_inv hI).mono (by omega))
    | 5, _ =>
      refine gz_aload_n (pc := 273) cx qd_L_law_273 rfl rfl ?_
      refine gz_aload_n (pc := 274) cx qd_L_law_274 rfl rfl ?_
      refine gz_iload_n (pc := 275) cx qd_L_law_275 rfl rfl ?_
      refine gz_iconst (v := 1) (pc := 276) cx qd_L_law_276 (by decide) ?_
      refine gz_iadd (pc := 277) cx qd_L_law_277 ?_
      refine gz_sld (j := 1 + 4 * k + 1) (pc := 278) cx hX hb (by omega) qd_L_law_278 (nI_add (1 + 4 * k) 1) (by omega) ?_
      refine gz_callV (pc := 279) cx qv_L_44 qd_L_law_279 (gc_G_swap hC) (by decide) rfl gm_G rfl rfl rfl rfl (Nat.le_of_ble_eq_true rfl) ⟨hrc, hrs⟩ ?_
      rintro _ S1 ⟨rfl, c1, f1⟩
      have d1 := hD.fr f1 c1.1.1
      refine gz_aload_n (pc := 282) cx qd_L_law_282 rfl rfl ?_
      refine gz_aload_n (pc := 283) cx qd_L_law_283 rfl rfl ?_
      refine gz_iload_n (pc := 284) cx qd_L_law_284 rfl rfl ?_
      refine gz_iconst (v := 1) (pc := 285) cx qd_L_law_285 (by decide) ?_
      refine gz_iadd (pc := 286) cx qd_L_law_286 ?_
      refine gz_sld (j := 1 + 4 * k + 1) (pc := 287) cx hX hb (by omega) qd_L_law_287 (nI_add (1 + 4 * k) 1) (by omega) ?_
      refine gz_callV (pc := 288) cx qv_L_47 qd_L_law_288 (gc_Z_swap d1) (by decide) rfl gm_Z rfl rfl rfl rfl (Nat.le_of_ble_eq_true rfl) ⟨hrc, hrs⟩ ?_
      rintro _ S2 ⟨rfl, d2, f2⟩
      have c2 := c1.fc f2 d2.1
      refine gz_icmp_eq (tgt := 500) (pc := 291) cx qd_L_law_291 (by decide) (fun _ => ?_) (fun h291 => absurd rfl h291)
      exact hn _ _ c2 d2 ((oSwap_inv hI).mono (by omega))
    | 6, _ =>
      refine gz_aload_n (pc := 296) cx qd_L_law_296 rfl rfl ?_
      refine gz_aload_n (pc := 297) cx qd_L_law_297 rfl rfl ?_
      refine gz_iload_n (pc := 298) cx qd_L_law_298 rfl rfl ?_
      refine gz_iconst (v := 1) (pc := 299) cx qd_L_law_299 (by decide) ?_
      refine gz_iadd (pc := 300) cx qd_L_law_300 ?_
      refine gz_sld (j := 1 + 4 * k + 1) (pc := 301) cx hX hb (by omega) qd_L_law_301 (nI_add (1 + 4 * k) 1) (by omega) ?_
      refine gz_callV (pc := 302) cx qv_L_48 qd_L_law_302 (gc_G_ticks hC (fun q t ht => ((oTicks_inv hI hDD).2 q t ht).1)) (by decide) rfl gm_G rfl rfl rfl rfl (Nat.le_of_ble_eq_true rfl) ⟨hrc, hrs⟩ ?_
      rintro _ S1 ⟨rfl, c1, f1⟩
      have d1 := hD.fr f1 c1.1.1
      refine gz_aload_n (pc := 305) cx qd_L_law_305 rfl rfl ?_
      refine gz_aload_n (pc := 306) cx qd_L_law_306 rfl rfl ?_
      refine gz_iload_n (pc := 307) cx qd_L_law_307 rfl rfl ?_
      refine gz_iconst (v := 1) (pc := 308) cx qd_L_law_308 (by decide) ?_
      refine gz_iadd (pc := 309) cx qd_L_law_309 ?_
      refine gz_sld (j := 1 + 4 * k + 1) (pc := 310) cx hX hb (by omega) qd_L_law_310 (nI_add (1 + 4 * k) 1) (by omega) ?_
      refine gz_callV (pc := 311) cx qv_L_52 qd_L_law_311 (gc_Z_ticks d1 hI hDD) (by decide) rfl gm_Z rfl rfl rfl rfl (Nat.le_of_ble_eq_true rfl) ⟨hrc, hrs⟩ ?_
      rintro _ S2 ⟨rfl, d2, f2⟩
      have c2 := c1.fc f2 d2.1
      refine gz_icmp_eq (tgt := 500) (pc := 314) cx qd_L_law_314 (by decide) (fun _ => ?_) (fun h314 => absurd rfl h314)
      exact hn _ _ c2 d2 ((oTicks_inv hI hDD).1.mono (by omega))
    | 7, _ =>
      refine gz_aload_n (pc := 319) cx qd_L_law_319 rfl rfl ?_
      refine gz_callV (pc := 320) cx qv_L_53 qd_L_law_320 (gc_G_now hC) (by decide) rfl gm_G rfl rfl rfl rfl (Nat.le_of_ble_eq_true rfl) ⟨hrc, hrs⟩ ?_
      rintro _ S1 ⟨rfl, hS1⟩
      rw [hS1]
      refine gz_aload_n (pc := 323) cx qd_L_law_323 rfl rfl ?_
      refine gz_callV (pc := 324) cx qv_L_57 qd_L_law_324 (gc_Z_now hD) (by decide) rfl gm_Z rfl rfl rfl rfl (Nat.le_of_ble_eq_true rfl) ⟨hrc, hrs⟩ ?_
      rintro _ S2 ⟨rfl, hS2⟩
      rw [hS2]
      refine gz_icmp_eq (tgt := 500) (pc := 327) cx qd_L_law_327 (by decide) (fun _ => ?_) (fun h327 => absurd rfl h327)
      exact hn _ _ hC hD (hI.mono (by omega))
    | 8, _ =>
      refine gz_aload_n (pc := 332) cx qd_L_law_332 rfl rfl ?_
      refine gz_callV (pc := 333) cx qv_L_58 qd_L_law_333 (gc_G_flight hC) (by decide) rfl gm_G rfl rfl rfl rfl (Nat.le_of_ble_eq_true rfl) ⟨hrc, hrs⟩ ?_
      rintro _ S1 ⟨rfl, hS1⟩
      rw [hS1]
      refine gz_aload_n (pc := 336) cx qd_L_law_336 rfl rfl ?_
      refine gz_callV (pc := 337) cx qv_L_61 qd_L_law_337 (gc_Z_flight hD) (by decide) rfl gm_Z rfl rfl rfl rfl (Nat.le_of_ble_eq_true rfl) ⟨hrc, hrs⟩ ?_
      rintro _ S2 ⟨rfl, hS2⟩
      rw [hS2]
      refine gz_icmp_eq (tgt := 500) (pc := 340) cx qd_L_law_340 (by decide) (fun _ => ?_) (fun h340 => absurd rfl h340)
      exact hn _ _ hC hD (hI.mono (by omega))
    | 9, _ =>
      refine gz_aload_n (pc := 345) cx qd_L_law_345 rfl rfl ?_
      refine gz_aload_n (pc := 346) cx qd_L_law_346 rfl rfl ?_
      refine gz_iload_n (pc := 347) cx qd_L_law_347 rfl rfl ?_
      refine gz_iconst (v := 1) (pc := 348) cx qd_L_law_348 (by decide) ?_
      refine gz_iadd (pc := 349) cx qd_L_law_349 ?_
      refine gz_sld (j := 1 + 4 * k + 1) (pc := 350) cx hX hb (by omega) qd_L_law_350 (nI_add (1 + 4 * k) 1) (by omega) ?_
      refine gz_aload_n (pc := 351) cx qd_L_law_351 rfl rfl ?_
      refine gz_iload_n (pc := 352) cx qd_L_law_352 rfl rfl ?_
      refine gz_iconst (v := 2) (pc := 353) cx qd_L_law_353 (by decide) ?_
      refine gz_iadd (pc := 354) cx qd_L_law_354 ?_
      refine gz_sld (j := 1 + 4 * k + 2) (pc := 355) cx hX hb (by omega) qd_L_law_355 (nI_add (1 + 4 * k) 2) (by omega) ?_
      refine gz_callV (pc := 356) cx qv_L_62 qd_L_law_356 (gc_G_message hC) (by decide) rfl gm_G rfl rfl rfl rfl (Nat.le_of_ble_eq_true rfl) ⟨hrc, hrs⟩ ?_
      rintro _ S1 ⟨rfl, hS1⟩
      rw [hS1]
      refine gz_aload_n (pc := 359) cx qd_L_law_359 rfl rfl ?_
      refine gz_aload_n (pc := 360) cx qd_L_law_360 rfl rfl ?_
      refine gz_iload_n (pc := 361) cx qd_L_law_361 rfl rfl ?_
      refine gz_iconst (v := 1) (pc := 362) cx qd_L_law_362 (by decide) ?_
      refine gz_iadd (pc := 363) cx qd_L_law_363 ?_
      refine gz_sld (j := 1 + 4 * k + 1) (pc := 364) cx hX hb (by omega) qd_L_law_364 (nI_add (1 + 4 * k) 1) (by omega) ?_
      refine gz_aload_n (pc := 365) cx qd_L_law_365 rfl rfl ?_
      refine gz_iload_n (pc := 366) cx qd_L_law_366 rfl rfl ?_
      refine gz_iconst (v := 2) (pc := 367) cx qd_L_law_367 (by decide) ?_
      refine gz_iadd (pc := 368) cx qd_L_law_368 ?_
      refine gz_sld (j := 1 + 4 * k + 2) (pc := 369) cx hX hb (by omega) qd_L_law_369 (nI_add (1 + 4 * k) 2) (by omega) ?_
      refine gz_callV (pc := 370) cx qv_L_66 qd_L_law_370 (gc_Z_message hD hI) (by decide) rfl gm_Z rfl rfl rfl rfl (Nat.le_of_ble_eq_true rfl) ⟨hrc, hrs⟩ ?_
      rintro _ S2 ⟨rfl, hS2⟩
      rw [hS2]
      refine gz_icmp_eq (tgt := 500) (pc := 373) cx qd_L_law_373 (by decide) (fun _ => ?_) (fun h373 => absurd rfl h373)
      exact hn _ _ hC hD (hI.mono (by omega))
    | 10, _ =>
      refine gz_aload_n (pc := 378) cx qd_L_law_378 rfl rfl ?_
      refine gz_aload_n (pc := 379) cx qd_L_law_379 rfl rfl ?_
      refine gz_iload_n (pc := 380) cx qd_L_law_380 rfl rfl ?_
      refine gz_iconst (v := 1) (pc := 381) cx qd_L_law_381 (by decide) ?_
      refine gz_iadd (pc := 382) cx qd_L_law_382 ?_
      refine gz_sld (j := 1 + 4 * k + 1) (pc := 383) cx hX hb (by omega) qd_L_law_383 (nI_add (1 + 4 * k) 1) (by omega) ?_
      refine gz_aload_n (pc := 384) cx qd_L_law_384 rfl rfl ?_
      refine gz_iload_n (pc := 385) cx qd_L_law_385 rfl rfl ?_
      refine gz_iconst (v := 2) (pc := 386) cx qd_L_law_386 (by decide) ?_
      refine gz_iadd (pc := 387) cx qd_L_law_387 ?_
      refine gz_sld (j := 1 + 4 * k + 2) (pc := 388) cx hX hb (by omega) qd_L_law_388 (nI_add (1 + 4 * k) 2) (by omega) ?_
      refine gz_aload_n (pc := 389) cx qd_L_law_389 rfl rfl ?_
      refine gz_iload_n (pc := 390) cx qd_L_law_390 rfl rfl ?_
      refine gz_iconst (v := 3) (pc := 391) cx qd_L_law_391 (by decide) ?_
      refine gz_iadd (pc := 392) cx qd_L_law_392 ?_
      refine gz_sld (j := 1 + 4 * k + 3) (pc := 393) cx hX hb (by omega) qd_L_law_393 (nI_add (1 + 4 * k) 3) (by omega) ?_
      refine gz_callV (pc := 394) cx qv_L_67 qd_L_law_394 (gc_G_view hC) (by decide) rfl gm_G rfl rfl rfl rfl (Nat.le_of_ble_eq_true rfl) ⟨hrc, hrs⟩ ?_
      rintro _ S1 ⟨rfl, hS1⟩
      rw [hS1]
      refine gz_aload_n (pc := 397) cx qd_L_law_397 rfl rfl ?_
      refine gz_aload_n (pc := 398) cx qd_L_law_398 rfl rfl ?_
      refine gz_iload_n (pc := 399) cx qd_L_law_399 rfl rfl ?_
      refine gz_iconst (v := 1) (pc := 400) cx qd_L_law_400 (by decide) ?_
      refine gz_iadd (pc := 401) cx qd_L_law_401 ?_
      refine gz_sld (j := 1 + 4 * k + 1) (pc := 402) cx hX hb (by omega) qd_L_law_402 (nI_add (1 + 4 * k) 1) (by omega) ?_
      refine gz_aload_n (pc := 403) cx qd_L_law_403 rfl rfl ?_
      refine gz_iload_n (pc := 404) cx qd_L_law_404 rfl rfl ?_
      refine gz_iconst (v := 2) (pc := 405) cx qd_L_law_405 (by decide) ?_
      refine gz_iadd (pc := 406) cx qd_L_law_406 ?_
      refine gz_sld (j := 1 + 4 * k + 2) (pc := 407) cx hX hb (by omega) qd_L_law_407 (nI_add (1 + 4 * k) 2) (by omega) ?_
      refine gz_aload_n (pc := 408) cx qd_L_law_408 rfl rfl ?_
      refine gz_iload_n (pc := 409) cx qd_L_law_409 rfl rfl ?_
      refine gz_iconst (v := 3) (pc := 410) cx qd_L_law_410 (by decide) ?_
      refine gz_iadd (pc := 411) cx qd_L_law_411 ?_
      refine gz_sld (j := 1 + 4 * k + 3) (pc := 412) cx hX hb (by omega) qd_L_law_412 (nI_add (1 + 4 * k) 3) (by omega) ?_
      refine gz_callV (pc := 413) cx qv_L_71 qd_L_law_413 (gc_Z_view hD hI) (by decide) rfl gm_Z rfl rfl rfl rfl (Nat.le_of_ble_eq_true rfl) ⟨hrc, hrs⟩ ?_
      rintro _ S2 ⟨rfl, hS2⟩
      rw [hS2]
      refine gz_icmp_eq (tgt := 500) (pc := 416) cx qd_L_law_416 (by decide) (fun _ => ?_) (fun h416 => absurd rfl h416)
      exact hn _ _ hC hD (hI.mono (by omega))
    | 11, _ =>
      refine gz_aload_n (pc := 421) cx qd_L_law_421 rfl rfl ?_
      refine gz_aload_n (pc := 422) cx qd_L_law_422 rfl rfl ?_
      refine gz_iload_n (pc := 423) cx qd_L_law_423 rfl rfl ?_
      refine gz_iconst (v := 1) (pc := 424) cx qd_L_law_424 (by decide) ?_
      refine gz_iadd (pc := 425) cx qd_L_law_425 ?_
      refine gz_sld (j := 1 + 4 * k + 1) (pc := 426) cx hX hb (by omega) qd_L_law_426 (nI_add (1 + 4 * k) 1) (by omega) ?_
      refine gz_aload_n (pc := 427) cx qd_L_law_427 rfl rfl ?_
      refine gz_iload_n (pc := 428) cx qd_L_law_428 rfl rfl ?_
      refine gz_iconst (v := 2) (pc := 429) cx qd_L_law_429 (by decide) ?_
      refine gz_iadd (pc := 430) cx qd_L_law_430 ?_
      refine gz_sld (j := 1 + 4 * k + 2) (pc := 431) cx hX hb (by omega) qd_L_law_431 (nI_add (1 + 4 * k) 2) (by omega) ?_
      refine gz_callV (pc := 432) cx qv_L_72 qd_L_law_432 (gc_G_node hC) (by decide) rfl gm_G rfl rfl rfl rfl (Nat.le_of_ble_eq_true rfl) ⟨hrc, hrs⟩ ?_
      rintro _ S1 ⟨rfl, hS1⟩
      rw [hS1]
      refine gz_aload_n (pc := 435) cx qd_L_law_435 rfl rfl ?_
      refine gz_aload_n (pc := 436) cx qd_L_law_436 rfl rfl ?_
      refine gz_iload_n (pc := 437) cx qd_L_law_437 rfl rfl ?_
      refine gz_iconst (v := 1) (pc := 438) cx qd_L_law_438 (by decide) ?_
      refine gz_iadd (pc := 439) cx qd_L_law_439 ?_
      refine gz_sld (j := 1 + 4 * k + 1) (pc := 440) cx hX hb (by omega) qd_L_law_440 (nI_add (1 + 4 * k) 1) (by omega) ?_
      refine gz_aload_n (pc := 441) cx qd_L_law_441 rfl rfl ?_
      refine gz_iload_n (pc := 442) cx qd_L_law_442 rfl rfl ?_
      refine gz_iconst (v := 2) (pc := 443) cx qd_L_law_443 (by decide) ?_
      refine gz_iadd (pc := 444) cx qd_L_law_444 ?_
      refine gz_sld (j := 1 + 4 * k + 2) (pc := 445) cx hX hb (by omega) qd_L_law_445 (nI_add (1 + 4 * k) 2) (by omega) ?_
      refine gz_callV (pc := 446) cx qv_L_75 qd_L_law_446 (gc_Z_node hD hI) (by decide) rfl gm_Z rfl rfl rfl rfl (Nat.le_of_ble_eq_true rfl) ⟨hrc, hrs⟩ ?_
      rintro _ S2 ⟨rfl, hS2⟩
      rw [hS2]
      refine gz_icmp_eq (tgt := 500) (pc := 449) cx qd_L_law_449 (by decide) (fun _ => ?_) (fun h449 => absurd rfl h449)
      exact hn _ _ hC hD (hI.mono (by omega))
    | 12, _ =>
      refine gz_aload_n (pc := 454) cx qd_L_law_454 rfl rfl ?_
      refine gz_aload_n (pc := 455) cx qd_L_law_455 rfl rfl ?_
      refine gz_iload_n (pc := 456) cx qd_L_law_456 rfl rfl ?_
      refine gz_iconst (v := 1) (pc := 457) cx qd_L_law_457 (by decide) ?_
      refine gz_iadd (pc := 458) cx qd_L_law_458 ?_
      refine gz_sld (j := 1 + 4 * k + 1) (pc := 459) cx hX hb (by omega) qd_L_law_459 (nI_add (1 + 4 * k) 1) (by omega) ?_
      refine gz_aload_n (pc := 460) cx qd_L_law_460 rfl rfl ?_
      refine gz_iload_n (pc := 461) cx qd_L_law_461 rfl rfl ?_
      refine gz_iconst (v := 2) (pc := 462) cx qd_L_law_462 (by decide) ?_
      refine gz_iadd (pc := 463) cx qd_L_law_463 ?_
      refine gz_sld (j := 1 + 4 * k + 2) (pc := 464) cx hX hb (by omega) qd_L_law_464 (nI_add (1 + 4 * k) 2) (by omega) ?_
      refine gz_callV (pc := 465) cx qv_L_76 qd_L_law_465 (gc_G_queued hC) (by decide) rfl gm_G rfl rfl rfl rfl (Nat.le_of_ble_eq_true rfl) ⟨hrc, hrs⟩ ?_
      rintro _ S1 ⟨rfl, hS1⟩
      rw [hS1]
      refine gz_aload_n (pc := 468) cx qd_L_law_468 rfl rfl ?_
      refine gz_aload_n (pc := 469) cx qd_L_law_469 rfl rfl ?_
      refine gz_iload_n (pc := 470) cx qd_L_law_470 rfl rfl ?_
      refine gz_iconst (v := 1) (pc := 471) cx qd_L_law_471 (by decide) ?_
      refine gz_iadd (pc := 472) cx qd_L_law_472 ?_
      refine gz_sld (j := 1 + 4 * k + 1) (pc := 473) cx hX hb (by omega) qd_L_law_473 (nI_add (1 + 4 * k) 1) (by omega) ?_
      refine gz_aload_n (pc := 474) cx qd_L_law_474 rfl rfl ?_
      refine gz_iload_n (pc := 475) cx qd_L_law_475 rfl rfl ?_
      refine gz_iconst (v := 2) (pc := 476) cx qd_L_law_476 (by decide) ?_
      refine gz_iadd (pc := 477) cx qd_L_law_477 ?_
      refine gz_sld (j := 1 + 4 * k + 2) (pc := 478) cx hX hb (by omega) qd_L_law_478 (nI_add (1 + 4 * k) 2) (by omega) ?_
      refine gz_callV (pc := 479) cx qv_L_79 qd_L_law_479 (gc_Z_queued hD) (by decide) rfl gm_Z rfl rfl rfl rfl (Nat.le_of_ble_eq_true rfl) ⟨hrc, hrs⟩ ?_
      rintro _ S2 ⟨rfl, hS2⟩
      rw [hS2]
      refine gz_icmp_eq (tgt := 500) (pc := 482) cx qd_L_law_482 (by decide) (fun _ => ?_) (fun h482 => absurd rfl h482)
      exact hn _ _ hC hD (hI.mono (by omega))
    | 13, _ =>
      refine gz_aload_n (pc := 487) cx qd_L_law_487 rfl rfl ?_
      refine gz_callV (pc := 488) cx qv_L_80 qd_L_law_488 (gc_G_agreed hC) (by decide) rfl gm_G rfl rfl rfl rfl (Nat.le_of_ble_eq_true rfl) ⟨hrc, hrs⟩ ?_
      rintro _ S1 ⟨rfl, hS1⟩
      rw [hS1]
      refine gz_aload_n (pc := 491) cx qd_L_law_491 rfl rfl ?_
      refine gz_callV (pc := 492) cx qv_L_84 qd_L_law_492 (gc_Z_agreed hD) (by decide) rfl gm_Z rfl rfl rfl rfl (Nat.le_of_ble_eq_true rfl) ⟨hrc, hrs⟩ ?_
      rintro _ S2 ⟨rfl, hS2⟩
      rw [hS2]
      refine gz_icmp_eq (tgt := 500) (pc := 495) cx qd_L_law_495 (by decide) (fun _ => ?_) (fun h495 => absurd rfl h495)
      exact hn _ _ hC hD (hI.mono (by omega))
    | i + 14, hi => exact absurd hi (by omega)
  · exact hn _ _ hC hD (hI.mono (by omega))
/-- the law's loop -/
theorem law_loop {G : gG} {E : gEnv} {Q : State → Prop} {b L : Nat} {xs : Nat → Int32} (cx : gC G E code 4 "GossipNodesLaw" 8) (hX : va_X b L xs E.2.2.2.2.1 E.2.2.2.2.1.heap) (hb : b < G.2.1 ∧ b < E.2.2.2.2.1.heap.size) (hL : L ≤ 2049) (hrc : 1000 ≤ E.2.2.2.1.cells) (hrs : 10000 ≤ E.2.2.2.1.slots) (hend : ∀ (lv : List (Option gV)) (S : gS), gZ G E 1000 10000 Q (gTt G) 506 lv [] S) : ∀ k, k ≤ (L - 1) / 4 → ∀ (M : mM) (S : gS), CR G M 0 0 none S → DR G M (fun _ => false) S → mInv G.1 (6000 * k) (fun _ => false) M → gZ G E 1000 10000 Q (gTt G) 28 [some (.inr (some (99, b, 0))), some (.inr (some (0, 0, 0))), some (.inr (some (20, 0, 0))), some (.inl (nI (1 + 4 * k)))] [] S := by
  refine g_upto ?_ ?_
  · intro M S hC hD hI
    refine gz_iload_n (pc := 28) cx qd_L_law_28 rfl rfl ?_
    refine gz_aload_n (pc := 29) cx qd_L_law_29 rfl rfl ?_
    refine gz_slen (pc := 30) cx hX hb qd_L_law_30 ?_
    refine gz_iconst (v := 4) (pc := 31) cx qd_L_law_31 (by decide) ?_
    refine gz_isub (pc := 32) cx qd_L_law_32 ?_
    refine gz_icmp_gt (tgt := 506) (pc := 33) cx qd_L_law_33 (by decide) (fun _ => ?_) (fun h33 => absurd ((hd_gt hL (by omega)).mpr (by omega)) h33)
    exact hend _ _
  · intro k hk ih M S hC hD hI
    have hk5 : 5 + 4 * k ≤ L := by omega
    refine gz_iload_n (pc := 28) cx qd_L_law_28 rfl rfl ?_
    refine gz_aload_n (pc := 29) cx qd_L_law_29 rfl rfl ?_
    refine gz_slen (pc := 30) cx hX hb qd_L_law_30 ?_
    refine gz_iconst (v := 4) (pc := 31) cx qd_L_law_31 (by decide) ?_
    refine gz_isub (pc := 32) cx qd_L_law_32 ?_
    refine gz_icmp_gt (tgt := 506) (pc := 33) cx qd_L_law_33 (by decide) (fun h33 => absurd ((hd_gt hL (by omega)).mp h33) (by omega)) (fun _ => ?_)
    refine law_step cx hX hb hL hrc hrs hk5 hC hD hI (fun M1 S1 c1 d1 i1 => ?_)
    refine gz_iinc (pc := 500) cx qd_L_law_500 rfl ((nI_add (1 + 4 * k) 4).trans (congrArg nI (show 1 + 4 * k + 4 = 1 + 4 * (k + 1) by omega))) ?_
    refine gz_goto (tgt := 28) (pc := 503) cx qd_L_law_503 (by decide) ?_
    exact ih M1 S1 c1 d1 i1
theorem gz_first {G : gG} {E : gEnv} {cells slots pc : Nat} {Q : State → Prop} {lv : List (Option gV)} {st : List gV} (kk : gZ G E cells slots Q (gTt G) pc lv st (sT G.1)) : gZ G E cells slots Q (gTt G) pc lv st (sZ (sG S0 G.1) G.1) := fun ls H locs hl hP hS => kk ls H locs hl (gP_first hP) hS
set_option maxRecDepth 20000 in
theorem law_walk {G : gG} {E : gEnv} {Q : State → Prop} {b L : Nat} {xs : Nat → Int32} (cx : gC G E code 4 "GossipNodesLaw" 8) (hX : va_X b L xs E.2.2.2.2.1 E.2.2.2.2.1.heap) (hb : b < G.2.1 ∧ b < E.2.2.2.2.1.heap.size) (hL : L ≤ 2049) (hrc : 1000 ≤ E.2.2.2.1.cells) (hrs : 10000 ≤ E.2.2.2.1.slots) (hnx : gNx E.2.2.2.2.1) (h8 : G.1 ≤ 8) (h2 : 2 ≤ G.1) (hg : (if (if (2 : Int32) < xs0 L xs then xs0 L xs else 2) < 8 then (if (2 : Int32) < xs0 L xs then xs0 L xs else 2) else 8) = nI G.1) (hz : (if xs0 L xs < 2 then (2 : Int32) else if xs0 L xs ≤ 8 then xs0 L xs else 8) = nI G.1) (hend : ∀ (lv : List (Option gV)) (S : gS), gZ G E 1000 10000 Q (gTt G) 506 lv [] S) : gZ G E 0 0 Q 0 0 [some (.inr (some (99, b, 0))), none, none, none] [] S0 := by
  refine gz_new (pc := 0) cx qc_L_7 qd_L_law_0 (go_hd (p := 0) (by decide)) rfl (fun f hf => ⟨rfl, rfl⟩) ⟨by omega, by have := gNf_v; omega⟩ ?_
  refine gz_dup (pc := 3) cx qd_L_law_3 ?_
  refine gz_aload_n (pc := 4) cx qd_L_law_4 rfl rfl ?_
  refine gz_iconst (v := 0) (pc := 5) cx qd_L_law_5 (by decide) ?_
  refine gz_callP (pc := 6) cx qs_L_9 qd_L_law_6 (gc_L_cell (xs := xs) (L := L) (by omega) hb.1) xs_blind (xs_here hX hb) (by decide) rfl rfl rfl (Nat.le_of_ble_eq_true rfl) ⟨by omega, by have := gNf_v; omega⟩ ?_
  rintro _ S1 ⟨rfl, hS1⟩
  rw [hS1]
  clear hS1
  refine gz_callI (pc := 9) cx hnx qa_L_15 qd_L_law_9 (gc_G_init hg h8 h2 (fun k f => ⟨rfl, rfl⟩)) (by decide) rfl rfl rfl (Nat.le_of_ble_eq_true rfl) ⟨by omega, by have := gNf_v; omega⟩ ?_
  rintro _ _ ⟨rfl, rfl⟩
  refine gz_astore_n (pc := 12) cx qd_L_law_12 rfl (Nat.le_of_ble_eq_true rfl) ?_
  refine gz_new (pc := 13) cx qc_L_18 qd_L_law_13 (go_z (n := G.1) (j := 0) (by decide)) rfl (fun f hf => fZ0 (by simp)) ⟨by omega, by have := gNf_v; omega⟩ ?_
  refine gz_dup (pc := 16) cx qd_L_law_16 ?_
  refine gz_aload_n (pc := 17) cx qd_L_law_17 rfl rfl ?_
  refine gz_iconst (v := 0) (pc := 18) cx qd_L_law_18 (by decide) ?_
  refine gz_callP (pc := 19) cx qs_L_9 qd_L_law_19 (gc_L_cell (xs := xs) (L := L) (by omega) hb.1) xs_blind (xs_here hX hb) (by decide) rfl rfl rfl (Nat.le_of_ble_eq_true rfl) ⟨by omega, by have := gNf_v; omega⟩ ?_
  rintro _ S1 ⟨rfl, hS1⟩
  rw [hS1]
  clear hS1
  refine gz_callI (pc := 22) cx hnx qa_L_20 qd_L_law_22 (gc_Z_init hz (fun k f hk => fZ0 hk)) (by decide) rfl rfl rfl (Nat.le_of_ble_eq_true rfl) ⟨by omega, by have := gNf_v; omega⟩ ?_
  rintro _ _ ⟨rfl, rfl⟩
  refine gz_astore_n (pc := 25) cx qd_L_law_25 rfl (Nat.le_of_ble_eq_true rfl) ?_
  refine gz_iconst (v := 1) (pc := 26) cx qd_L_law_26 (by decide) ?_
  refine gz_istore_n (pc := 27) cx qd_L_law_27 rfl (Nat.le_of_ble_eq_true rfl) ?_
  have := gNf_v
  refine gz_widen (c2 := 1000) (s2 := 10000) (by omega) (by omega) ?_
  have eT : 248 + (G.1 + 7) * G.1 + 26 = gTt G := by show _ = (gOrd G.1).length; rw [gOrd_len]; omega
  rw [eT]
  exact gz_first (law_loop cx hX hb hL hrc hrs hend 0 (Nat.zero_le _) M0 (sT G.1) (CR_first h8 h2) (DR_first h8 h2) (mInv_first h8 h2))
