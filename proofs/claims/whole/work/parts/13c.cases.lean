theorem lcmp_self (x : Int64) : lg_cmp x x = 0 := by
  simp [lg_cmp]
set_option maxHeartbeats 4000000 in
set_option maxRecDepth 100000 in
theorem law_addWater {g : CtxT} {D : va_G} {c : Nat → ClassId} {b L : Nat} {xs : Nat → Int32} (C : CX g D c cL_law RL wsL_law 9 room_1) (XS : SXc b L xs g) (XW : WXL g) (X W R B K Q T TB TK TQ Y : Nat → Nat) (m0 : Nat) (M : Nat → Nat) (o : Nat) (S : Nat → Nat → Int32) (f : Nat → Int64) (v4 : Int32) (hin : ∀ j : Nat, j < 8 → vp_in (v4 + nI j) L) (hR : Rel S) (cells slots : Nat) (hroom : cells + 67 ≤ 601024 ∧ slots + 14262 ≤ 7293034)
    (K1 : ∀ (S' : Nat → Nat → Int32) (f' : Nat → Int64) (M' : Nat → Nat) (a b' : Nat), Rel S' → Cost S S' a b' → VV g D 9 (cells + a) (slots + b') (wLaw c X W R B K Q T TB TK TQ Y m0 M' o S' f') [(0, .ref b), (1, .ref (X 0)), (2, .ref m0), (3, .ref o), (4, .int v4)] 1623 []) : VV g D 9 cells slots (wLaw c X W R B K Q T TB TK TQ Y m0 M o S f) [(0, .ref b), (1, .ref (X 0)), (2, .ref m0), (3, .ref o), (4, .int v4)] 144 [] := by
  obtain ⟨q, q', hA, hB, hthr, hexc, hval⟩ := sim_addWater S (xs (v4 + 1).toNatClampNeg) (xs (v4 + 2).toNatClampNeg) (xs (v4 + 3).toNatClampNeg) (xs (v4 + 4).toNatClampNeg) (xs (v4 + 5).toNatClampNeg) (xs (v4 + 6).toNatClampNeg) (xs (v4 + 7).toNatClampNeg) hR
  rcases q with k | u
  · obtain ⟨hk, hRel⟩ := hexc k rfl
    have hk0 : ¬ (sel (Sum.inl k : Nat ⊕ (Int32 × Int32 × (Nat → Int32) × (Nat → Int32) × (Nat → Int32) × (Nat → Int32))) kcL_addWater (fun _ => 0)) = 0 := by
      rcases (show k = 1 ∨ k = 2 by simpa using hk) with rfl | rfl <;> decide
    refine vv_aload_n C dL_law_144 rfl 1 rfl 145 rfl ?_
    refine vv_aload_n C dL_law_145 rfl 0 rfl 146 rfl ?_
    refine vv_iload C dL_law_146 4 rfl 148 rfl ?_
    refine vv_iconst C (v := 1) dL_law_148 (by decide) 149 rfl ?_
    refine vv_iadd C dL_law_149 150 rfl ?_
    refine vv_sld C XS (hin 1 (by decide)) dL_law_150 151 rfl ?_
    refine vv_aload_n C dL_law_151 rfl 0 rfl 152 rfl ?_
    refine vv_iload C dL_law_152 4 rfl 154 rfl ?_
    refine vv_iconst C (v := 2) dL_law_154 (by decide) 155 rfl ?_
    refine vv_iadd C dL_law_155 156 rfl ?_
    refine vv_sld C XS (hin 2 (by decide)) dL_law_156 157 rfl ?_
    refine vv_aload_n C dL_law_157 rfl 0 rfl 158 rfl ?_
    refine vv_iload C dL_law_158 4 rfl 160 rfl ?_
    refine vv_iconst C (v := 3) dL_law_160 (by decide) 161 rfl ?_
    refine vv_iadd C dL_law_161 162 rfl ?_
    refine vv_sld C XS (hin 3 (by decide)) dL_law_162 163 rfl ?_
    refine vv_aload_n C dL_law_163 rfl 0 rfl 164 rfl ?_
    refine vv_iload C dL_law_164 4 rfl 166 rfl ?_
    refine vv_iconst C (v := 4) dL_law_166 (by decide) 167 rfl ?_
    refine vv_iadd C dL_law_167 168 rfl ?_
    refine vv_sld C XS (hin 4 (by decide)) dL_law_168 169 rfl ?_
    refine vv_aload_n C dL_law_169 rfl 0 rfl 170 rfl ?_
    refine vv_iload C dL_law_170 4 rfl 172 rfl ?_
    refine vv_iconst C (v := 5) dL_law_172 (by decide) 173 rfl ?_
    refine vv_iadd C dL_law_173 174 rfl ?_
    refine vv_sld C XS (hin 5 (by decide)) dL_law_174 175 rfl ?_
    refine vv_aload_n C dL_law_175 rfl 0 rfl 176 rfl ?_
    refine vv_iload C dL_law_176 4 rfl 178 rfl ?_
    refine vv_bipush C (v := 6) dL_law_178 (by decide) 180 rfl ?_
    refine vv_iadd C dL_law_180 181 rfl ?_
    refine vv_sld C XS (hin 6 (by decide)) dL_law_181 182 rfl ?_
    refine vv_aload_n C dL_law_182 rfl 0 rfl 183 rfl ?_
    refine vv_iload C dL_law_183 4 rfl 185 rfl ?_
    refine vv_bipush C (v := 7) dL_law_185 (by decide) 187 rfl ?_
    refine vv_iadd C dL_law_187 188 rfl ?_
    refine vv_sld C XS (hin 7 (by decide)) dL_law_188 189 rfl ?_
    refine vv_aload_n C dL_law_189 rfl 3 rfl 190 rfl ?_
    refine vv_callW C XW (fun l hfl => mt_L_addWater l hfl D c X W R T Y (S 0 0) (S 5 0) (S 6 0) (S 7 0) (S 1) (S 2) (S 3) (S 4) (xs (v4 + 1).toNatClampNeg) (xs (v4 + 2).toNatClampNeg) (xs (v4 + 3).toNatClampNeg) (xs (v4 + 4).toNatClampNeg) (xs (v4 + 5).toNatClampNeg) (xs (v4 + 6).toNatClampNeg) (xs (v4 + 7).toNatClampNeg) o f (Sum.inl k) hA (fun k2 e2 => by cases e2; exact hk)) gL_law_L_addWater rfl rfl rfl yd_L_addWater ⟨Nat.le_of_ble_eq_true rfl, Nat.le_of_ble_eq_true rfl⟩ [0, 1, 2, 3, 4, 5, 70] rfl (by decide) (wLaw c X W R B K Q T TB TK TQ Y m0 M o S f) [(true, 0), (true, 1), (true, 2), (true, 3), (true, 4), (true, 5), (false, 6), (false, 7), (false, 8), (false, 9), (false, 10), (false, 11), (false, 12), (false, 13), (false, 14), (false, 15), (false, 16), (false, 17), (false, 18), (false, 19), (false, 20), (false, 21), (false, 22), (false, 23), (false, 24), (false, 25), (false, 26), (false, 27), (false, 28), (false, 29), (false, 30), (false, 31), (false, 32), (false, 33), (false, 34), (false, 35), (false, 36), (false, 37), (false, 38), (false, 39), (false, 40), (false, 41), (false, 42), (false, 43), (false, 44), (false, 45), (false, 46), (false, 47), (false, 48), (false, 49), (false, 50), (false, 51), (false, 52), (false, 53), (false, 54), (false, 55), (false, 56), (false, 57), (false, 58), (false, 59), (false, 60), (false, 61), (false, 62), (false, 63), (false, 64), (false, 65), (false, 66), (false, 67), (false, 68), (false, 69), (true, 6)] rfl (by decide) rfl rfl [] rfl (Nat.le_of_ble_eq_true rfl) ⟨show cells + 1 ≤ 601024 by omega, show slots + 6 ≤ 7293034 by omega⟩ dL_law_190 193 (cells + 1) (slots + 6) rfl ⟨rfl, rfl⟩ ?_
    refine vv_istore C [(5, .int (sel (Sum.inl k : Nat ⊕ (Int32 × Int32 × (Nat → Int32) × (Nat → Int32) × (Nat → Int32) × (Nat → Int32))) kcL_addWater (fun _ => 0))), (0, .ref b), (1, .ref (X 0)), (2, .ref m0), (3, .ref o), (4, .int v4)] dL_law_193 (by decide) rfl 195 rfl ?_
    refine vv_aload_n C dL_law_195 rfl 3 rfl 196 rfl ?_
    refine vv_aload_n C dL_law_196 rfl 1 rfl 197 rfl ?_
    refine vv_iload C dL_law_197 5 rfl 199 rfl ?_
    refine vv_iconst C (v := 1) dL_law_199 (by decide) 200 rfl ?_
    refine vv_iadd C dL_law_200 201 rfl ?_
    refine vv_sld C XS (hin 1 (by decide)) dL_law_201 202 rfl ?_
    refine vv_aload_n C dL_law_202 rfl 1 rfl 203 rfl ?_
    refine vv_iload C dL_law_203 5 rfl 205 rfl ?_
    refine vv_iconst C (v := 2) dL_law_205 (by decide) 206 rfl ?_
    refine vv_iadd C dL_law_206 207 rfl ?_
    refine vv_sld C XS (hin 2 (by decide)) dL_law_207 208 rfl ?_
    refine vv_aload_n C dL_law_208 rfl 1 rfl 209 rfl ?_
    refine vv_iload C dL_law_209 5 rfl 211 rfl ?_
    refine vv_iconst C (v := 3) dL_law_211 (by decide) 212 rfl ?_
    refine vv_iadd C dL_law_212 213 rfl ?_
    refine vv_sld C XS (hin 3 (by decide)) dL_law_213 214 rfl ?_
    refine vv_aload_n C dL_law_214 rfl 1 rfl 215 rfl ?_
    refine vv_iload C dL_law_215 5 rfl 217 rfl ?_
    refine vv_iconst C (v := 4) dL_law_217 (by decide) 218 rfl ?_
    refine vv_iadd C dL_law_218 219 rfl ?_
    refine vv_sld C XS (hin 4 (by decide)) dL_law_219 220 rfl ?_
    refine vv_aload_n C dL_law_220 rfl 1 rfl 221 rfl ?_
    refine vv_iload C dL_law_221 5 rfl 223 rfl ?_
    refine vv_iconst C (v := 5) dL_law_223 (by decide) 224 rfl ?_
    refine vv_iadd C dL_law_224 225 rfl ?_
    refine vv_sld C XS (hin 5 (by decide)) dL_law_225 226 rfl ?_
    refine vv_aload_n C dL_law_226 rfl 1 rfl 227 rfl ?_
    refine vv_iload C dL_law_227 5 rfl 229 rfl ?_
    refine vv_bipush C (v := 6) dL_law_229 (by decide) 231 rfl ?_
    refine vv_iadd C dL_law_231 232 rfl ?_
    refine vv_sld C XS (hin 6 (by decide)) dL_law_232 233 rfl ?_
    refine vv_aload_n C dL_law_233 rfl 1 rfl 234 rfl ?_
    refine vv_iload C dL_law_234 5 rfl 236 rfl ?_
    refine vv_bipush C (v := 7) dL_law_236 (by decide) 238 rfl ?_
    refine vv_iadd C dL_law_238 239 rfl ?_
    refine vv_sld C XS (hin 7 (by decide)) dL_law_239 240 rfl ?_
    refine vv_callVi C (fun l => mt_X7_addWater l D c (mA m0 M) (S 60 0) (S 61 0) (S 63 0) (S 64 0) (S 65 0) (S 67 0) (S 62) (xs (v4 + 1).toNatClampNeg) (xs (v4 + 2).toNatClampNeg) (xs (v4 + 3).toNatClampNeg) (xs (v4 + 4).toNatClampNeg) (xs (v4 + 5).toNatClampNeg) (xs (v4 + 6).toNatClampNeg) (xs (v4 + 7).toNatClampNeg) q' hB) gL_law_X7_addWater rfl rfl rfl yd_X7_addWater ⟨Nat.le_of_ble_eq_true rfl, Nat.le_of_ble_eq_true rfl⟩ [57, 58] rfl (by decide) 0 rfl rfl (wLaw c X W R B K Q T TB TK TQ Y m0 M o (up (up (up S 60 (fun _ => q'.2.1)) 61 (fun _ => q'.2.2.1)) 62 q'.2.2.2) f) [(false, 0), (false, 1), (false, 2), (false, 3), (false, 4), (false, 5), (false, 6), (false, 7), (false, 8), (false, 9), (false, 10), (false, 11), (false, 12), (false, 13), (false, 14), (false, 15), (false, 16), (false, 17), (false, 18), (false, 19), (false, 20), (false, 21), (false, 22), (false, 23), (false, 24), (false, 25), (false, 26), (false, 27), (false, 28), (false, 29), (false, 30), (false, 31), (false, 32), (false, 33), (false, 34), (false, 35), (false, 36), (false, 37), (false, 38), (false, 39), (false, 40), (false, 41), (false, 42), (false, 43), (false, 44), (false, 45), (false, 46), (false, 47), (false, 48), (false, 49), (false, 50), (false, 51), (false, 52), (false, 53), (false, 54), (false, 55), (false, 56), (true, 0), (true, 1), (false, 59), (false, 60), (false, 61), (false, 62), (false, 63), (false, 64), (false, 65), (false, 66), (false, 67), (false, 68), (false, 69), (false, 70)] rfl (by decide) rfl rfl [] rfl (Nat.le_of_ble_eq_true rfl) ⟨show cells + 1 + 1 ≤ 601024 by omega, show slots + 6 + 7 ≤ 7293034 by omega⟩ dL_law_240 243 (cells + 1 + 1) (slots + 6 + 7) rfl ⟨rfl, rfl⟩ ?_
    refine vv_istore C [(6, .int q'.1), (5, .int (sel (Sum.inl k : Nat ⊕ (Int32 × Int32 × (Nat → Int32) × (Nat → Int32) × (Nat → Int32) × (Nat → Int32))) kcL_addWater (fun _ => 0))), (0, .ref b), (1, .ref (X 0)), (2, .ref m0), (3, .ref o), (4, .int v4)] dL_law_243 (by decide) rfl 245 rfl ?_
    refine vv_aload_n C dL_law_245 rfl 4 rfl 246 rfl ?_
    refine vv_callVi C (fun l => mt_X7_thrown l D c (mA m0 M) ((up (up (up S 60 (fun _ => q'.2.1)) 61 (fun _ => q'.2.2.1)) 62 q'.2.2.2) 60 0) ((up (up (up S 60 (fun _ => q'.2.1)) 61 (fun _ => q'.2.2.1)) 62 q'.2.2.2) 61 0) ((up (up (up S 60 (fun _ => q'.2.1)) 61 (fun _ => q'.2.2.1)) 62 q'.2.2.2) 63 0) ((up (up (up S 60 (fun _ => q'.2.1)) 61 (fun _ => q'.2.2.1)) 62 q'.2.2.2) 64 0) ((up (up (up S 60 (fun _ => q'.2.1)) 61 (fun _ => q'.2.2.1)) 62 q'.2.2.2) 65 0) ((up (up (up S 60 (fun _ => q'.2.1)) 61 (fun _ => q'.2.2.1)) 62 q'.2.2.2) 67 0) q'.2.1 rfl) gL_law_X7_thrown rfl rfl rfl yd_X7_thrown ⟨Nat.le_of_ble_eq_true rfl, Nat.le_of_ble_eq_true rfl⟩ [57] rfl (by decide) 0 rfl rfl (wLaw c X W R B K Q T TB TK TQ Y m0 M o (up (up (up S 60 (fun _ => q'.2.1)) 61 (fun _ => q'.2.2.1)) 62 q'.2.2.2) f) [(false, 0), (false, 1), (false, 2), (false, 3), (false, 4), (false, 5), (false, 6), (false, 7), (false, 8), (false, 9), (false, 10), (false, 11), (false, 12), (false, 13), (false, 14), (false, 15), (false, 16), (false, 17), (false, 18), (false, 19), (false, 20), (false, 21), (false, 22), (false, 23), (false, 24), (false, 25), (false, 26), (false, 27), (false, 28), (false, 29), (false, 30), (false, 31), (false, 32), (false, 33), (false, 34), (false, 35), (false, 36), (false, 37), (false, 38), (false, 39), (false, 40), (false, 41), (false, 42), (false, 43), (false, 44), (false, 45), (false, 46), (false, 47), (false, 48), (false, 49), (false, 50), (false, 51), (false, 52), (false, 53), (false, 54), (false, 55), (false, 56), (true, 0), (false, 58), (false, 59), (false, 60), (false, 61), (false, 62), (false, 63), (false, 64), (false, 65), (false, 66), (false, 67), (false, 68), (false, 69), (false, 70)] rfl (by decide) rfl rfl [] rfl (Nat.le_of_ble_eq_true rfl) ⟨show cells + 1 + 1 ≤ 601024 by omega, show slots + 6 + 7 ≤ 7293034 by omega⟩ dL_law_246 249 (cells + 1 + 1) (slots + 6 + 7) rfl ⟨rfl, rfl⟩ ?_
    refine vv_iload C dL_law_249 1 rfl 251 rfl ?_
    refine vv_icmp_eq C 256 254 dL_law_251 (by decide) rfl (fun _ => ?_) (fun hc => absurd hthr hc)
    refine vv_iload C dL_law_256 1 rfl 258 rfl ?_
    refine vv_if_ne C 273 261 dL_law_258 (by decide) rfl (fun _ => ?_) (fun hc => absurd hc hk0)
    refine vv_goto C 1623 dL_law_273 (by decide) ?_
    refine vv_lv [2, 3, 4, 5, 6] [(0, .ref b), (1, .ref (X 0)), (2, .ref m0), (3, .ref o), (4, .int v4)] rfl ?_
    refine vv_cs (k := cells + (1 + 1)) (n := slots + (6 + 7)) (by omega) (by omega) ?_
    exact K1 _ _ _ _ _ hRel ⟨by omega, by omega, Or.inr ⟨rfl, fun h0 => by omega⟩⟩
  · obtain ⟨hret, hRel⟩ := hval u rfl
    refine vv_aload_n C dL_law_144 rfl 1 rfl 145 rfl ?_
    refine vv_aload_n C dL_law_145 rfl 0 rfl 146 rfl ?_
    refine vv_iload C dL_law_146 4 rfl 148 rfl ?_
    refine vv_iconst C (v := 1) dL_law_148 (by decide) 149 rfl ?_
    refine vv_iadd C dL_law_149 150 rfl ?_
    refine vv_sld C XS (hin 1 (by decide)) dL_law_150 151 rfl ?_
    refine vv_aload_n C dL_law_151 rfl 0 rfl 152 rfl ?_
    refine vv_iload C dL_law_152 4 rfl 154 rfl ?_
    refine vv_iconst C (v := 2) dL_law_154 (by decide) 155 rfl ?_
    refine vv_iadd C dL_law_155 156 rfl ?_
    refine vv_sld C XS (hin 2 (by decide)) dL_law_156 157 rfl ?_
    refine vv_aload_n C dL_law_157 rfl 0 rfl 158 rfl ?_
    refine vv_iload C dL_law_158 4 rfl 160 rfl ?_
    refine vv_iconst C (v := 3) dL_law_160 (by decide) 161 rfl ?_
    refine vv_iadd C dL_law_161 162 rfl ?_
    refine vv_sld C XS (hin 3 (by decide)) dL_law_162 163 rfl ?_
    refine vv_aload_n C dL_law_163 rfl 0 rfl 164 rfl ?_
    refine vv_iload C dL_law_164 4 rfl 166 rfl ?_
    refine vv_iconst C (v := 4) dL_law_166 (by decide) 167 rfl ?_
    refine vv_iadd C dL_law_167 168 rfl ?_
    refine vv_sld C XS (hin 4 (by decide)) dL_law_168 169 rfl ?_
    refine vv_aload_n C dL_law_169 rfl 0 rfl 170 rfl ?_
    refine vv_iload C dL_law_170 4 rfl 172 rfl ?_
    refine vv_iconst C (v := 5) dL_law_172 (by decide) 173 rfl ?_
    refine vv_iadd C dL_law_173 174 rfl ?_
    refine vv_sld C XS (hin 5 (by decide)) dL_law_174 175 rfl ?_
    refine vv_aload_n C dL_law_175 rfl 0 rfl 176 rfl ?_
    refine vv_iload C dL_law_176 4 rfl 178 rfl ?_
    refine vv_bipush C (v := 6) dL_law_178 (by decide) 180 rfl ?_
    refine vv_iadd C dL_law_180 181 rfl ?_
    refine vv_sld C XS (hin 6 (by decide)) dL_law_181 182 rfl ?_
    refine vv_aload_n C dL_law_182 rfl 0 rfl 183 rfl ?_
    refine vv_iload C dL_law_183 4 rfl 185 rfl ?_
    refine vv_bipush C (v := 7) dL_law_185 (by decide) 187 rfl ?_
    refine vv_iadd C dL_law_187 188 rfl ?_
    refine vv_sld C XS (hin 7 (by decide)) dL_law_188 189 rfl ?_
    refine vv_aload_n C dL_law_189 rfl 3 rfl 190 rfl ?_
    refine vv_callW C XW (fun l hfl => mt_L_addWater l hfl D c X W R T Y (S 0 0) (S 5 0) (S 6 0) (S 7 0) (S 1) (S 2) (S 3) (S 4) (xs (v4 + 1).toNatClampNeg) (xs (v4 + 2).toNatClampNeg) (xs (v4 + 3).toNatClampNeg) (xs (v4 + 4).toNatClampNeg) (xs (v4 + 5).toNatClampNeg) (xs (v4 + 6).toNatClampNeg) (xs (v4 + 7).toNatClampNeg) o f (Sum.inr u) hA (fun k2 e2 => nomatch e2)) gL_law_L_addWater rfl rfl rfl yd_L_addWater ⟨Nat.le_of_ble_eq_true rfl, Nat.le_of_ble_eq_true rfl⟩ [0, 1, 2, 3, 4, 5, 70] rfl (by decide) (wLaw c X W R B K Q T TB TK TQ Y m0 M o (up (up (up (up (up S 5 (fun _ => u.2.1)) 1 u.2.2.1) 2 u.2.2.2.1) 3 u.2.2.2.2.1) 4 u.2.2.2.2.2) (vp_updL f 0 u.1.toInt64)) [(true, 0), (true, 1), (true, 2), (true, 3), (true, 4), (true, 5), (false, 6), (false, 7), (false, 8), (false, 9), (false, 10), (false, 11), (false, 12), (false, 13), (false, 14), (false, 15), (false, 16), (false, 17), (false, 18), (false, 19), (false, 20), (false, 21), (false, 22), (false, 23), (false, 24), (false, 25), (false, 26), (false, 27), (false, 28), (false, 29), (false, 30), (false, 31), (false, 32), (false, 33), (false, 34), (false, 35), (false, 36), (false, 37), (false, 38), (false, 39), (false, 40), (false, 41), (false, 42), (false, 43), (false, 44), (false, 45), (false, 46), (false, 47), (false, 48), (false, 49), (false, 50), (false, 51), (false, 52), (false, 53), (false, 54), (false, 55), (false, 56), (false, 57), (false, 58), (false, 59), (false, 60), (false, 61), (false, 62), (false, 63), (false, 64), (false, 65), (false, 66), (false, 67), (false, 68), (false, 69), (true, 6)] rfl (by decide) rfl rfl [] rfl (Nat.le_of_ble_eq_true rfl) ⟨show cells + 1 ≤ 601024 by omega, show slots + 6 ≤ 7293034 by omega⟩ dL_law_190 193 (cells + 1) (slots + 6) rfl ⟨rfl, rfl⟩ ?_
    refine vv_istore C [(5, .int (sel (Sum.inr u : Nat ⊕ (Int32 × Int32 × (Nat → Int32) × (Nat → Int32) × (Nat → Int32) × (Nat → Int32))) kcL_addWater (fun _ => 0))), (0, .ref b), (1, .ref (X 0)), (2, .ref m0), (3, .ref o), (4, .int v4)] dL_law_193 (by decide) rfl 195 rfl ?_
    refine vv_aload_n C dL_law_195 rfl 3 rfl 196 rfl ?_
    refine vv_aload_n C dL_law_196 rfl 1 rfl 197 rfl ?_
    refine vv_iload C dL_law_197 5 rfl 199 rfl ?_
    refine vv_iconst C (v := 1) dL_law_199 (by decide) 200 rfl ?_
    refine vv_iadd C dL_law_200 201 rfl ?_
    refine vv_sld C XS (hin 1 (by decide)) dL_law_201 202 rfl ?_
    refine vv_aload_n C dL_law_202 rfl 1 rfl 203 rfl ?_
    refine vv_iload C dL_law_203 5 rfl 205 rfl ?_
    refine vv_iconst C (v := 2) dL_law_205 (by decide) 206 rfl ?_
    refine vv_iadd C dL_law_206 207 rfl ?_
    refine vv_sld C XS (hin 2 (by decide)) dL_law_207 208 rfl ?_
    refine vv_aload_n C dL_law_208 rfl 1 rfl 209 rfl ?_
    refine vv_iload C dL_law_209 5 rfl 211 rfl ?_
    refine vv_iconst C (v := 3) dL_law_211 (by decide) 212 rfl ?_
    refine vv_iadd C dL_law_212 213 rfl ?_
    refine vv_sld C XS (hin 3 (by decide)) dL_law_213 214 rfl ?_
    refine vv_aload_n C dL_law_214 rfl 1 rfl 215 rfl ?_
    refine vv_iload C dL_law_215 5 rfl 217 rfl ?_
    refine vv_iconst C (v := 4) dL_law_217 (by decide) 218 rfl ?_
    refine vv_iadd C dL_law_218 219 rfl ?_
    refine vv_sld C XS (hin 4 (by decide)) dL_law_219 220 rfl ?_
    refine vv_aload_n C dL_law_220 rfl 1 rfl 221 rfl ?_
    refine vv_iload C dL_law_221 5 rfl 223 rfl ?_
    refine vv_iconst C (v := 5) dL_law_223 (by decide) 224 rfl ?_
    refine vv_iadd C dL_law_224 225 rfl ?_
    refine vv_sld C XS (hin 5 (by decide)) dL_law_225 226 rfl ?_
    refine vv_aload_n C dL_law_226 rfl 1 rfl 227 rfl ?_
    refine vv_iload C dL_law_227 5 rfl 229 rfl ?_
    refine vv_bipush C (v := 6) dL_law_229 (by decide) 231 rfl ?_
    refine vv_iadd C dL_law_231 232 rfl ?_
    refine vv_sld C XS (hin 6 (by decide)) dL_law_232 233 rfl ?_
    refine vv_aload_n C dL_law_233 rfl 1 rfl 234 rfl ?_
    refine vv_iload C dL_law_234 5 rfl 236 rfl ?_
    refine vv_bipush C (v := 7) dL_law_236 (by decide) 238 rfl ?_
    refine vv_iadd C dL_law_238 239 rfl ?_
    refine vv_sld C XS (hin 7 (by decide)) dL_law_239 240 rfl ?_
    refine vv_callVi C (fun l => mt_X7_addWater l D c (mA m0 M) (S 60 0) (S 61 0) (S 63 0) (S 64 0) (S 65 0) (S 67 0) (S 62) (xs (v4 + 1).toNatClampNeg) (xs (v4 + 2).toNatClampNeg) (xs (v4 + 3).toNatClampNeg) (xs (v4 + 4).toNatClampNeg) (xs (v4 + 5).toNatClampNeg) (xs (v4 + 6).toNatClampNeg) (xs (v4 + 7).toNatClampNeg) q' hB) gL_law_X7_addWater rfl rfl rfl yd_X7_addWater ⟨Nat.le_of_ble_eq_true rfl, Nat.le_of_ble_eq_true rfl⟩ [57, 58] rfl (by decide) 0 rfl rfl (wLaw c X W R B K Q T TB TK TQ Y m0 M o (up (up (up (up (up (up (up (up S 5 (fun _ => u.2.1)) 1 u.2.2.1) 2 u.2.2.2.1) 3 u.2.2.2.2.1) 4 u.2.2.2.2.2) 60 (fun _ => q'.2.1)) 61 (fun _ => q'.2.2.1)) 62 q'.2.2.2) (vp_updL f 0 u.1.toInt64)) [(false, 0), (false, 1), (false, 2), (false, 3), (false, 4), (false, 5), (false, 6), (false, 7), (false, 8), (false, 9), (false, 10), (false, 11), (false, 12), (false, 13), (false, 14), (false, 15), (false, 16), (false, 17), (false, 18), (false, 19), (false, 20), (false, 21), (false, 22), (false, 23), (false, 24), (false, 25), (false, 26), (false, 27), (false, 28), (false, 29), (false, 30), (false, 31), (false, 32), (false, 33), (false, 34), (false, 35), (false, 36), (false, 37), (false, 38), (false, 39), (false, 40), (false, 41), (false, 42), (false, 43), (false, 44), (false, 45), (false, 46), (false, 47), (false, 48), (false, 49), (false, 50), (false, 51), (false, 52), (false, 53), (false, 54), (false, 55), (false, 56), (true, 0), (true, 1), (false, 59), (false, 60), (false, 61), (false, 62), (false, 63), (false, 64), (false, 65), (false, 66), (false, 67), (false, 68), (false, 69), (false, 70)] rfl (by decide) rfl rfl [] rfl (Nat.le_of_ble_eq_true rfl) ⟨show cells + 1 + 1 ≤ 601024 by omega, show slots + 6 + 7 ≤ 7293034 by omega⟩ dL_law_240 243 (cells + 1 + 1) (slots + 6 + 7) rfl ⟨rfl, rfl⟩ ?_
    refine vv_istore C [(6, .int q'.1), (5, .int (sel (Sum.inr u : Nat ⊕ (Int32 × Int32 × (Nat → Int32) × (Nat → Int32) × (Nat → Int32) × (Nat → Int32))) kcL_addWater (fun _ => 0))), (0, .ref b), (1, .ref (X 0)), (2, .ref m0), (3, .ref o), (4, .int v4)] dL_law_243 (by decide) rfl 245 rfl ?_
    refine vv_aload_n C dL_law_245 rfl 4 rfl 246 rfl ?_
    refine vv_callVi C (fun l => mt_X7_thrown l D c (mA m0 M) ((up (up (up (up (up (up (up (up S 5 (fun _ => u.2.1)) 1 u.2.2.1) 2 u.2.2.2.1) 3 u.2.2.2.2.1) 4 u.2.2.2.2.2) 60 (fun _ => q'.2.1)) 61 (fun _ => q'.2.2.1)) 62 q'.2.2.2) 60 0) ((up (up (up (up (up (up (up (up S 5 (fun _ => u.2.1)) 1 u.2.2.1) 2 u.2.2.2.1) 3 u.2.2.2.2.1) 4 u.2.2.2.2.2) 60 (fun _ => q'.2.1)) 61 (fun _ => q'.2.2.1)) 62 q'.2.2.2) 61 0) ((up (up (up (up (up (up (up (up S 5 (fun _ => u.2.1)) 1 u.2.2.1) 2 u.2.2.2.1) 3 u.2.2.2.2.1) 4 u.2.2.2.2.2) 60 (fun _ => q'.2.1)) 61 (fun _ => q'.2.2.1)) 62 q'.2.2.2) 63 0) ((up (up (up (up (up (up (up (up S 5 (fun _ => u.2.1)) 1 u.2.2.1) 2 u.2.2.2.1) 3 u.2.2.2.2.1) 4 u.2.2.2.2.2) 60 (fun _ => q'.2.1)) 61 (fun _ => q'.2.2.1)) 62 q'.2.2.2) 64 0) ((up (up (up (up (up (up (up (up S 5 (fun _ => u.2.1)) 1 u.2.2.1) 2 u.2.2.2.1) 3 u.2.2.2.2.1) 4 u.2.2.2.2.2) 60 (fun _ => q'.2.1)) 61 (fun _ => q'.2.2.1)) 62 q'.2.2.2) 65 0) ((up (up (up (up (up (up (up (up S 5 (fun _ => u.2.1)) 1 u.2.2.1) 2 u.2.2.2.1) 3 u.2.2.2.2.1) 4 u.2.2.2.2.2) 60 (fun _ => q'.2.1)) 61 (fun _ => q'.2.2.1)) 62 q'.2.2.2) 67 0) q'.2.1 rfl) gL_law_X7_thrown rfl rfl rfl yd_X7_thrown ⟨Nat.le_of_ble_eq_true rfl, Nat.le_of_ble_eq_true rfl⟩ [57] rfl (by decide) 0 rfl rfl (wLaw c X W R B K Q T TB TK TQ Y m0 M o (up (up (up (up (up (up (up (up S 5 (fun _ => u.2.1)) 1 u.2.2.1) 2 u.2.2.2.1) 3 u.2.2.2.2.1) 4 u.2.2.2.2.2) 60 (fun _ => q'.2.1)) 61 (fun _ => q'.2.2.1)) 62 q'.2.2.2) (vp_updL f 0 u.1.toInt64)) [(false, 0), (false, 1), (false, 2), (false, 3), (false, 4), (false, 5), (false, 6), (false, 7), (false, 8), (false, 9), (false, 10), (false, 11), (false, 12), (false, 13), (false, 14), (false, 15), (false, 16), (false, 17), (false, 18), (false, 19), (false, 20), (false, 21), (false, 22), (false, 23), (false, 24), (false, 25), (false, 26), (false, 27), (false, 28), (false, 29), (false, 30), (false, 31), (false, 32), (false, 33), (false, 34), (false, 35), (false, 36), (false, 37), (false, 38), (false, 39), (false, 40), (false, 41), (false, 42), (false, 43), (false, 44), (false, 45), (false, 46), (false, 47), (false, 48), (false, 49), (false, 50), (false, 51), (false, 52), (false, 53), (false, 54), (false, 55), (false, 56), (true, 0), (false, 58), (false, 59), (false, 60), (false, 61), (false, 62), (false, 63), (false, 64), (false, 65), (false, 66), (false, 67), (false, 68), (false, 69), (false, 70)] rfl (by decide) rfl rfl [] rfl (Nat.le_of_ble_eq_true rfl) ⟨show cells + 1 + 1 ≤ 601024 by omega, show slots + 6 + 7 ≤ 7293034 by omega⟩ dL_law_246 249 (cells + 1 + 1) (slots + 6 + 7) rfl ⟨rfl, rfl⟩ ?_
    refine vv_iload C dL_law_249 1 rfl 251 rfl ?_
    refine vv_icmp_eq C 256 254 dL_law_251 (by decide) rfl (fun _ => ?_) (fun hc => absurd hthr hc)
    refine vv_iload C dL_law_256 1 rfl 258 rfl ?_
    refine vv_if_ne C 273 261 dL_law_258 (by decide) rfl (fun hc => absurd rfl hc) (fun _ => ?_)
    refine vv_aload_n C dL_law_261 rfl 5 rfl 262 rfl ?_
    refine vv_iconst C (v := 0) dL_law_262 (by decide) 263 rfl ?_
    refine vv_lald C (q0 := 70) rfl (inB_t (by decide)) dL_law_263 264 rfl ?_
    refine vv_iload C dL_law_264 0 rfl 266 rfl ?_
    refine vv_i2l C dL_law_266 267 rfl ?_
    refine vv_lcmp C dL_law_267 268 rfl ?_
    refine vv_if_eq C 273 271 dL_law_268 (by decide) rfl (fun _ => ?_) (fun hc => absurd (by rw [hret]; exact lcmp_self _) hc)
    refine vv_goto C 1623 dL_law_273 (by decide) ?_
    refine vv_lv [2, 3, 4, 5, 6] [(0, .ref b), (1, .ref (X 0)), (2, .ref m0), (3, .ref o), (4, .int v4)] rfl ?_
    refine vv_cs (k := cells + (1 + 1)) (n := slots + (6 + 7)) (by omega) (by omega) ?_
    exact K1 _ _ _ _ _ hRel ⟨by omega, by omega, Or.inr ⟨rfl, fun h0 => by omega⟩⟩
set_option maxHeartbeats 4000000 in
set_option maxRecDepth 100000 in
theorem law_sea {g : CtxT} {D : va_G} {c : Nat → ClassId} {b L : Nat} {xs : Nat → Int32} (C : CX g D c cL_law RL wsL_law 9 room_1) (XS : SXc b L xs g) (XW : WXL g) (X W R B K Q T TB TK TQ Y : Nat → Nat) (m0 : Nat) (M : Nat → Nat) (o : Nat) (S : Nat → Nat → Int32) (f : Nat → Int64) (v4 : Int32) (hin : ∀ j : Nat, j < 8 → vp_in (v4 + nI j) L) (hR : Rel S) (cells slots : Nat) (hroom : cells + 67 ≤ 601024 ∧ slots + 14262 ≤ 7293034)
    (K1 : ∀ (S' : Nat → Nat → Int32) (f' : Nat → Int64) (M' : Nat → Nat) (a b' : Nat), Rel S' → Cost S S' a b' → VV g D 9 (cells + a) (slots + b') (wLaw c X W R B K Q T TB TK TQ Y m0 M' o S' f') [(0, .ref b), (1, .ref (X 0)), (2, .ref m0), (3, .ref o), (4, .int v4)] 1623 []) : VV g D 9 cells slots (wLaw c X W R B K Q T TB TK TQ Y m0 M o S f) [(0, .ref b), (1, .ref (X 0)), (2, .ref m0), (3, .ref o), (4, .int v4)] 276 [] := by
  obtain ⟨q, q', hA, hB, hthr, hexc, hval⟩ := sim_sea S (xs (v4 + 1).toNatClampNeg) (xs (v4 + 2).toNatClampNeg) (xs (v4 + 3).toNatClampNeg) hR
  rcases q with k | u
  · obtain ⟨hk, hRel⟩ := hexc k rfl
    have hk0 : ¬ (sel (Sum.inl k : Nat ⊕ (Int32)) kcL_sea (fun _ => 0)) = 0 := by
      obtain rfl : k = 3 := by simpa using hk
      decide
    refine vv_aload_n C dL_law_276 rfl 1 rfl 277 rfl ?_
    refine vv_aload_n C dL_law_277 rfl 0 rfl 278 rfl ?_
    refine vv_iload C dL_law_278 4 rfl 280 rfl ?_
    refine vv_iconst C (v := 1) dL_law_280 (by decide) 281 rfl ?_
    refine vv_iadd C dL_law_281 282 rfl ?_
    refine vv_sld C XS (hin 1 (by decide)) dL_law_282 283 rfl ?_
    refine vv_aload_n C dL_law_283 rfl 0 rfl 284 rfl ?_
    refine vv_iload C dL_law_284 4 rfl 286 rfl ?_
    refine vv_iconst C (v := 2) dL_law_286 (by decide) 287 rfl ?_
    refine vv_iadd C dL_law_287 288 rfl ?_
    refine vv_sld C XS (hin 2 (by decide)) dL_law_288 289 rfl ?_
    refine vv_aload_n C dL_law_289 rfl 0 rfl 290 rfl ?_
    refine vv_iload C dL_law_290 4 rfl 292 rfl ?_
    refine vv_iconst C (v := 3) dL_law_292 (by decide) 293 rfl ?_
    refine vv_iadd C dL_law_293 294 rfl ?_
    refine vv_sld C XS (hin 3 (by decide)) dL_law_294 295 rfl ?_
    refine vv_aload_n C dL_law_295 rfl 3 rfl 296 rfl ?_
    refine vv_callW C XW (fun l hfl => mt_L_sea l hfl D c X W R B K Q T Y (S 0 0) (S 5 0) (S 6 0) (S 7 0) (S 1) (S 2) (S 3) (S 4) (S 10 0) (S 11 0) (S 23 0) (S 19) (S 20) (S 21) (xs (v4 + 1).toNatClampNeg) (xs (v4 + 2).toNatClampNeg) (xs (v4 + 3).toNatClampNeg) o f (Sum.inl k) hA (fun k2 e2 => by cases e2; exact hk)) gL_law_L_sea rfl rfl rfl yd_L_sea ⟨Nat.le_of_ble_eq_true rfl, Nat.le_of_ble_eq_true rfl⟩ [0, 1, 2, 3, 4, 5, 6, 9, 17, 18, 19, 70] rfl (by decide) (wLaw c X W R B K Q T TB TK TQ Y m0 M o S f) [(true, 0), (true, 1), (true, 2), (true, 3), (true, 4), (true, 5), (true, 6), (false, 7), (false, 8), (true, 7), (false, 10), (false, 11), (false, 12), (false, 13), (false, 14), (false, 15), (false, 16), (true, 8), (true, 9), (true, 10), (false, 20), (false, 21), (false, 22), (false, 23), (false, 24), (false, 25), (false, 26), (false, 27), (false, 28), (false, 29), (false, 30), (false, 31), (false, 32), (false, 33), (false, 34), (false, 35), (false, 36), (false, 37), (false, 38), (false, 39), (false, 40), (false, 41), (false, 42), (false, 43), (false, 44), (false, 45), (false, 46), (false, 47), (false, 48), (false, 49), (false, 50), (false, 51), (false, 52), (false, 53), (false, 54), (false, 55), (false, 56), (false, 57), (false, 58), (false, 59), (false, 60), (false, 61), (false, 62), (false, 63), (false, 64), (false, 65), (false, 66), (false, 67), (false, 68), (false, 69), (true, 11)] rfl (by decide) rfl rfl [] rfl (Nat.le_of_ble_eq_true rfl) ⟨show cells + 1 ≤ 601024 by omega, show slots + 6 ≤ 7293034 by omega⟩ dL_law_296 299 (cells + 1) (slots + 6) rfl ⟨rfl, rfl⟩ ?_
    refine vv_istore C [(5, .int (sel (Sum.inl k : Nat ⊕ (Int32)) kcL_sea (fun _ => 0))), (0, .ref b), (1, .ref (X 0)), (2, .ref m0), (3, .ref o), (4, .int v4)] dL_law_299 (by decide) rfl 301 rfl ?_
    refine vv_aload_n C dL_law_301 rfl 3 rfl 302 rfl ?_
    refine vv_aload_n C dL_law_302 rfl 1 rfl 303 rfl ?_
    refine vv_iload C dL_law_303 5 rfl 305 rfl ?_
    refine vv_iconst C (v := 1) dL_law_305 (by decide) 306 rfl ?_
    refine vv_iadd C dL_law_306 307 rfl ?_
    refine vv_sld C XS (hin 1 (by decide)) dL_law_307 308 rfl ?_
    refine vv_aload_n C dL_law_308 rfl 1 rfl 309 rfl ?_
    refine vv_iload C dL_law_309 5 rfl 311 rfl ?_
    refine vv_iconst C (v := 2) dL_law_311 (by decide) 312 rfl ?_
    refine vv_iadd C dL_law_312 313 rfl ?_
    refine vv_sld C XS (hin 2 (by decide)) dL_law_313 314 rfl ?_
    refine vv_aload_n C dL_law_314 rfl 1 rfl 315 rfl ?_
    refine vv_iload C dL_law_315 5 rfl 317 rfl ?_
    refine vv_iconst C (v := 3) dL_law_317 (by decide) 318 rfl ?_
    refine vv_iadd C dL_law_318 319 rfl ?_
    refine vv_sld C XS (hin 3 (by decide)) dL_law_319 320 rfl ?_
    refine vv_callVi C (fun l => mt_X7_sea l D c (mA m0 M) (S 60 0) (S 61 0) (S 63 0) (S 64 0) (S 65 0) (S 67 0) (S 62) (S 68) (xs (v4 + 1).toNatClampNeg) (xs (v4 + 2).toNatClampNeg) (xs (v4 + 3).toNatClampNeg) q' hB) gL_law_X7_sea rfl rfl rfl yd_X7_sea ⟨Nat.le_of_ble_eq_true rfl, Nat.le_of_ble_eq_true rfl⟩ [57, 58, 60] rfl (by decide) 0 rfl rfl (wLaw c X W R B K Q T TB TK TQ Y m0 M o (up S 60 (fun _ => q'.2)) f) [(false, 0), (false, 1), (false, 2), (false, 3), (false, 4), (false, 5), (false, 6), (false, 7), (false, 8), (false, 9), (false, 10), (false, 11), (false, 12), (false, 13), (false, 14), (false, 15), (false, 16), (false, 17), (false, 18), (false, 19), (false, 20), (false, 21), (false, 22), (false, 23), (false, 24), (false, 25), (false, 26), (false, 27), (false, 28), (false, 29), (false, 30), (false, 31), (false, 32), (false, 33), (false, 34), (false, 35), (false, 36), (false, 37), (false, 38), (false, 39), (false, 40), (false, 41), (false, 42), (false, 43), (false, 44), (false, 45), (false, 46), (false, 47), (false, 48), (false, 49), (false, 50), (false, 51), (false, 52), (false, 53), (false, 54), (false, 55), (false, 56), (true, 0), (true, 1), (false, 59), (true, 2), (false, 61), (false, 62), (false, 63), (false, 64), (false, 65), (false, 66), (false, 67), (false, 68), (false, 69), (false, 70)] rfl (by decide) rfl rfl [] rfl (Nat.le_of_ble_eq_true rfl) ⟨show cells + 1 + 0 ≤ 601024 by omega, show slots + 6 + 0 ≤ 7293034 by omega⟩ dL_law_320 323 (cells + 1 + 0) (slots + 6 + 0) rfl ⟨rfl, rfl⟩ ?_
    refine vv_istore C [(6, .int q'.1), (5, .int (sel (Sum.inl k : Nat ⊕ (Int32)) kcL_sea (fun _ => 0))), (0, .ref b), (1, .ref (X 0)), (2, .ref m0), (3, .ref o), (4, .int v4)] dL_law_323 (by decide) rfl 325 rfl ?_
    refine vv_aload_n C dL_law_325 rfl 4 rfl 326 rfl ?_
    refine vv_callVi C (fun l => mt_X7_thrown l D c (mA m0 M) ((up S 60 (fun _ => q'.2)) 60 0) ((up S 60 (fun _ => q'.2)) 61 0) ((up S 60 (fun _ => q'.2)) 63 0) ((up S 60 (fun _ => q'.2)) 64 0) ((up S 60 (fun _ => q'.2)) 65 0) ((up S 60 (fun _ => q'.2)) 67 0) q'.2 rfl) gL_law_X7_thrown rfl rfl rfl yd_X7_thrown ⟨Nat.le_of_ble_eq_true rfl, Nat.le_of_ble_eq_true rfl⟩ [57] rfl (by decide) 0 rfl rfl (wLaw c X W R B K Q T TB TK TQ Y m0 M o (up S 60 (fun _ => q'.2)) f) [(false, 0), (false, 1), (false, 2), (false, 3), (false, 4), (false, 5), (false, 6), (false, 7), (false, 8), (false, 9), (false, 10), (false, 11), (false, 12), (false, 13), (false, 14), (false, 15), (false, 16), (false, 17), (false, 18), (false, 19), (false, 20), (false, 21), (false, 22), (false, 23), (false, 24), (false, 25), (false, 26), (false, 27), (false, 28), (false, 29), (false, 30), (false, 31), (false, 32), (false, 33), (false, 34), (false, 35), (false, 36), (false, 37), (false, 38), (false, 39), (false, 40), (false, 41), (false, 42), (false, 43), (false, 44), (false, 45), (false, 46), (false, 47), (false, 48), (false, 49), (false, 50), (false, 51), (false, 52), (false, 53), (false, 54), (false, 55), (false, 56), (true, 0), (false, 58), (false, 59), (false, 60), (false, 61), (false, 62), (false, 63), (false, 64), (false, 65), (false, 66), (false, 67), (false, 68), (false, 69), (false, 70)] rfl (by decide) rfl rfl [] rfl (Nat.le_of_ble_eq_true rfl) ⟨show cells + 1 + 0 ≤ 601024 by omega, show slots + 6 + 0 ≤ 7293034 by omega⟩ dL_law_326 329 (cells + 1 + 0) (slots + 6 + 0) rfl ⟨rfl, rfl⟩ ?_
    refine vv_iload C dL_law_329 1 rfl 331 rfl ?_
    refine vv_icmp_eq C 336 334 dL_law_331 (by decide) rfl (fun _ => ?_) (fun hc => absurd hthr hc)
    refine vv_iload C dL_law_336 1 rfl 338 rfl ?_
    refine vv_if_ne C 353 341 dL_law_338 (by decide) rfl (fun _ => ?_) (fun hc => absurd hc hk0)
    refine vv_goto C 1623 dL_law_353 (by decide) ?_
    refine vv_lv [2, 3, 4, 5, 6] [(0, .ref b), (1, .ref (X 0)), (2, .ref m0), (3, .ref o), (4, .int v4)] rfl ?_
    refine vv_cs (k := cells + (1 + 0)) (n := slots + (6 + 0)) (by omega) (by omega) ?_
    exact K1 _ _ _ _ _ hRel ⟨by omega, by omega, Or.inl (by omega)⟩
  · obtain ⟨hret, hRel⟩ := hval u rfl
    refine vv_aload_n C dL_law_276 rfl 1 rfl 277 rfl ?_
    refine vv_aload_n C dL_law_277 rfl 0 rfl 278 rfl ?_
    refine vv_iload C dL_law_278 4 rfl 280 rfl ?_
    refine vv_iconst C (v := 1) dL_law_280 (by decide) 281 rfl ?_
    refine vv_iadd C dL_law_281 282 rfl ?_
    refine vv_sld C XS (hin 1 (by decide)) dL_law_282 283 rfl ?_
    refine vv_aload_n C dL_law_283 rfl 0 rfl 284 rfl ?_
    refine vv_iload C dL_law_284 4 rfl 286 rfl ?_
    refine vv_iconst C (v := 2) dL_law_286 (by decide) 287 rfl ?_
    refine vv_iadd C dL_law_287 288 rfl ?_
    refine vv_sld C XS (hin 2 (by decide)) dL_law_288 289 rfl ?_
    refine vv_aload_n C dL_law_289 rfl 0 rfl 290 rfl ?_
    refine vv_iload C dL_law_290 4 rfl 292 rfl ?_
    refine vv_iconst C (v := 3) dL_law_292 (by decide) 293 rfl ?_
    refine vv_iadd C dL_law_293 294 rfl ?_
    refine vv_sld C XS (hin 3 (by decide)) dL_law_294 295 rfl ?_
    refine vv_aload_n C dL_law_295 rfl 3 rfl 296 rfl ?_
    refine vv_callW C XW (fun l hfl => mt_L_sea l hfl D c X W R B K Q T Y (S 0 0) (S 5 0) (S 6 0) (S 7 0) (S 1) (S 2) (S 3) (S 4) (S 10 0) (S 11 0) (S 23 0) (S 19) (S 20) (S 21) (xs (v4 + 1).toNatClampNeg) (xs (v4 + 2).toNatClampNeg) (xs (v4 + 3).toNatClampNeg) o f (Sum.inr u) hA (fun k2 e2 => nomatch e2)) gL_law_L_sea rfl rfl rfl yd_L_sea ⟨Nat.le_of_ble_eq_true rfl, Nat.le_of_ble_eq_true rfl⟩ [0, 1, 2, 3, 4, 5, 6, 9, 17, 18, 19, 70] rfl (by decide) (wLaw c X W R B K Q T TB TK TQ Y m0 M o S (vp_updL f 0 u.toInt64)) [(true, 0), (true, 1), (true, 2), (true, 3), (true, 4), (true, 5), (true, 6), (false, 7), (false, 8), (true, 7), (false, 10), (false, 11), (false, 12), (false, 13), (false, 14), (false, 15), (false, 16), (true, 8), (true, 9), (true, 10), (false, 20), (false, 21), (false, 22), (false, 23), (false, 24), (false, 25), (false, 26), (false, 27), (false, 28), (false, 29), (false, 30), (false, 31), (false, 32), (false, 33), (false, 34), (false, 35), (false, 36), (false, 37), (false, 38), (false, 39), (false, 40), (false, 41), (false, 42), (false, 43), (false, 44), (false, 45), (false, 46), (false, 47), (false, 48), (false, 49), (false, 50), (false, 51), (false, 52), (false, 53), (false, 54), (false, 55), (false, 56), (false, 57), (false, 58), (false, 59), (false, 60), (false, 61), (false, 62), (false, 63), (false, 64), (false, 65), (false, 66), (false, 67), (false, 68), (false, 69), (true, 11)] rfl (by decide) rfl rfl [] rfl (Nat.le_of_ble_eq_true rfl) ⟨show cells + 1 ≤ 601024 by omega, show slots + 6 ≤ 7293034 by omega⟩ dL_law_296 299 (cells + 1) (slots + 6) rfl ⟨rfl, rfl⟩ ?_
    refine vv_istore C [(5, .int (sel (Sum.inr u : Nat ⊕ (Int32)) kcL_sea (fun _ => 0))), (0, .ref b), (1, .ref (X 0)), (2, .ref m0), (3, .ref o), (4, .int v4)] dL_law_299 (by decide) rfl 301 rfl ?_
    refine vv_aload_n C dL_law_301 rfl 3 rfl 302 rfl ?_
    refine vv_aload_n C dL_law_302 rfl 1 rfl 303 rfl ?_
    refine vv_iload C dL_law_303 5 rfl 305 rfl ?_
    refine vv_iconst C (v := 1) dL_law_305 (by decide) 306 rfl ?_
    refine vv_iadd C dL_law_306 307 rfl ?_
    refine vv_sld C XS (hin 1 (by decide)) dL_law_307 308 rfl ?_
    refine vv_aload_n C dL_law_308 rfl 1 rfl 309 rfl ?_
    refine vv_iload C dL_law_309 5 rfl 311 rfl ?_
    refine vv_iconst C (v := 2) dL_law_311 (by decide) 312 rfl ?_
    refine vv_iadd C dL_law_312 313 rfl ?_
    refine vv_sld C XS (hin 2 (by decide)) dL_law_313 314 rfl ?_
    refine vv_aload_n C dL_law_314 rfl 1 rfl 315 rfl ?_
    refine vv_iload C dL_law_315 5 rfl 317 rfl ?_
    refine vv_iconst C (v := 3) dL_law_317 (by decide) 318 rfl ?_
    refine vv_iadd C dL_law_318 319 rfl ?_
    refine vv_sld C XS (hin 3 (by decide)) dL_law_319 320 rfl ?_
    refine vv_callVi C (fun l => mt_X7_sea l D c (mA m0 M) (S 60 0) (S 61 0) (S 63 0) (S 64 0) (S 65 0) (S 67 0) (S 62) (S 68) (xs (v4 + 1).toNatClampNeg) (xs (v4 + 2).toNatClampNeg) (xs (v4 + 3).toNatClampNeg) q' hB) gL_law_X7_sea rfl rfl rfl yd_X7_sea ⟨Nat.le_of_ble_eq_true rfl, Nat.le_of_ble_eq_true rfl⟩ [57, 58, 60] rfl (by decide) 0 rfl rfl (wLaw c X W R B K Q T TB TK TQ Y m0 M o (up S 60 (fun _ => q'.2)) (vp_updL f 0 u.toInt64)) [(false, 0), (false, 1), (false, 2), (false, 3), (false, 4), (false, 5), (false, 6), (false, 7), (false, 8), (false, 9), (false, 10), (false, 11), (false, 12), (false, 13), (false, 14), (false, 15), (false, 16), (false, 17), (false, 18), (false, 19), (false, 20), (false, 21), (false, 22), (false, 23), (false, 24), (false, 25), (false, 26), (false, 27), (false, 28), (false, 29), (false, 30), (false, 31), (false, 32), (false, 33), (false, 34), (false, 35), (false, 36), (false, 37), (false, 38), (false, 39), (false, 40), (false, 41), (false, 42), (false, 43), (false, 44), (false, 45), (false, 46), (false, 47), (false, 48), (false, 49), (false, 50), (false, 51), (false, 52), (false, 53), (false, 54), (false, 55), (false, 56), (true, 0), (true, 1), (false, 59), (true, 2), (false, 61), (false, 62), (false, 63), (false, 64), (false, 65), (false, 66), (false, 67), (false, 68), (false, 69), (false, 70)] rfl (by decide) rfl rfl [] rfl (Nat.le_of_ble_eq_true rfl) ⟨show cells + 1 + 0 ≤ 601024 by omega, show slots + 6 + 0 ≤ 7293034 by omega⟩ dL_law_320 323 (cells + 1 + 0) (slots + 6 + 0) rfl ⟨rfl, rfl⟩ ?_
    refine vv_istore C [(6, .int q'.1), (5, .int (sel (Sum.inr u : Nat ⊕ (Int32)) kcL_sea (fun _ => 0))), (0, .ref b), (1, .ref (X 0)), (2, .ref m0), (3, .ref o), (4, .int v4)] dL_law_323 (by decide) rfl 325 rfl ?_
    refine vv_aload_n C dL_law_325 rfl 4 rfl 326 rfl ?_
    refine vv_callVi C (fun l => mt_X7_thrown l D c (mA m0 M) ((up S 60 (fun _ => q'.2)) 60 0) ((up S 60 (fun _ => q'.2)) 61 0) ((up S 60 (fun _ => q'.2)) 63 0) ((up S 60 (fun _ => q'.2)) 64 0) ((up S 60 (fun _ => q'.2)) 65 0) ((up S 60 (fun _ => q'.2)) 67 0) q'.2 rfl) gL_law_X7_thrown rfl rfl rfl yd_X7_thrown ⟨Nat.le_of_ble_eq_true rfl, Nat.le_of_ble_eq_true rfl⟩ [57] rfl (by decide) 0 rfl rfl (wLaw c X W R B K Q T TB TK TQ Y m0 M o (up S 60 (fun _ => q'.2)) (vp_updL f 0 u.toInt64)) [(false, 0), (false, 1), (false, 2), (false, 3), (false, 4), (false, 5), (false, 6), (false, 7), (false, 8), (false, 9), (false, 10), (false, 11), (false, 12), (false, 13), (false, 14), (false, 15), (false, 16), (false, 17), (false, 18), (false, 19), (false, 20), (false, 21), (false, 22), (false, 23), (false, 24), (false, 25), (false, 26), (false, 27), (false, 28), (false, 29), (false, 30), (false, 31), (false, 32), (false, 33), (false, 34), (false, 35), (false, 36), (false, 37), (false, 38), (false, 39), (false, 40), (false, 41), (false, 42), (false, 43), (false, 44), (false, 45), (false, 46), (false, 47), (false, 48), (false, 49), (false, 50), (false, 51), (false, 52), (false, 53), (false, 54), (false, 55), (false, 56), (true, 0), (false, 58), (false, 59), (false, 60), (false, 61), (false, 62), (false, 63), (false, 64), (false, 65), (false, 66), (false, 67), (false, 68), (false, 69), (false, 70)] rfl (by decide) rfl rfl [] rfl (Nat.le_of_ble_eq_true rfl) ⟨show cells + 1 + 0 ≤ 601024 by omega, show slots + 6 + 0 ≤ 7293034 by omega⟩ dL_law_326 329 (cells + 1 + 0) (slots + 6 + 0) rfl ⟨rfl, rfl⟩ ?_
    refine vv_iload C dL_law_329 1 rfl 331 rfl ?_
    refine vv_icmp_eq C 336 334 dL_law_331 (by decide) rfl (fun _ => ?_) (fun hc => absurd hthr hc)
    refine vv_iload C dL_law_336 1 rfl 338 rfl ?_
    refine vv_if_ne C 353 341 dL_law_338 (by decide) rfl (fun hc => absurd rfl hc) (fun _ => ?_)
    refine vv_aload_n C dL_law_341 rfl 5 rfl 342 rfl ?_
    refine vv_iconst C (v := 0) dL_law_342 (by decide) 343 rfl ?_
    refine vv_lald C (q0 := 70) rfl (inB_t (by decide)) dL_law_343 344 rfl ?_
    refine vv_iload C dL_law_344 0 rfl 346 rfl ?_
    refine vv_i2l C dL_law_346 347 rfl ?_
    refine vv_lcmp C dL_law_347 348 rfl ?_
    refine vv_if_eq C 353 351 dL_law_348 (by decide) rfl (fun _ => ?_) (fun hc => absurd (by rw [hret]; exact lcmp_self _) hc)
    refine vv_goto C 1623 dL_law_353 (by decide) ?_
    refine vv_lv [2, 3, 4, 5, 6] [(0, .ref b), (1, .ref (X 0)), (2, .ref m0), (3, .ref o), (4, .int v4)] rfl ?_
    refine vv_cs (k := cells + (1 + 0)) (n := slots + (6 + 0)) (by omega) (by omega) ?_
    exact K1 _ _ _ _ _ hRel ⟨by omega, by omega, Or.inl (by omega)⟩
set_option maxHeartbeats 4000000 in
set_option maxRecDepth 100000 in
theorem law_setWind {g : CtxT} {D : va_G} {c : Nat → ClassId} {b L : Nat} {xs : Nat → Int32} (C : CX g D c cL_law RL wsL_law 9 room_1) (XS : SXc b L xs g) (XW : WXL g) (X W R B K Q T TB TK TQ Y : Nat → Nat) (m0 : Nat) (M : Nat → Nat) (o : Nat) (S : Nat → Nat → Int32) (f : Nat → Int64) (v4 : Int32) (hin : ∀ j : Nat, j < 8 → vp_in (v4 + nI j) L) (hR : Rel S) (cells slots : Nat) (hroom : cells + 67 ≤ 601024 ∧ slots + 14262 ≤ 7293034)
    (K1 : ∀ (S' : Nat → Nat → Int32) (f' : Nat → Int64) (M' : Nat → Nat) (a b' : Nat), Rel S' → Cost S S' a b' → VV g D 9 (cells + a) (slots + b') (wLaw c X W R B K Q T TB TK TQ Y m0 M' o S' f') [(0, .ref b), (1, .ref (X 0)), (2, .ref m0), (3, .ref o), (4, .int v4)] 1623 []) : VV g D 9 cells slots (wLaw c X W R B K Q T TB TK TQ Y m0 M o S f) [(0, .ref b), (1, .ref (X 0)), (2, .ref m0), (3, .ref o), (4, .int v4)] 356 [] := by
  obtain ⟨q, q', hA, hB, hthr, hexc, hval⟩ := sim_setWind S (xs (v4 + 1).toNatClampNeg) (xs (v4 + 2).toNatClampNeg) hR
  rcases q with k | u
  · obtain ⟨hk, hRel⟩ := hexc k rfl
    have hk0 : ¬ (sel (Sum.inl k : Nat ⊕ (Int32 × Int32 × Int32)) kcL_setWind (fun _ => 0)) = 0 := by
      obtain rfl : k = 1 := by simpa using hk
      decide
    refine vv_aload_n C dL_law_356 rfl 1 rfl 357 rfl ?_
    refine vv_aload_n C dL_law_357 rfl 0 rfl 358 rfl ?_
    refine vv_iload C dL_law_358 4 rfl 360 rfl ?_
    refine vv_iconst C (v := 1) dL_law_360 (by decide) 361 rfl ?_
    refine vv_iadd C dL_law_361 362 rfl ?_
    refine vv_sld C XS (hin 1 (by decide)) dL_law_362 363 rfl ?_
    refine vv_aload_n C dL_law_363 rfl 0 rfl 364 rfl ?_
    refine vv_iload C dL_law_364 4 rfl 366 rfl ?_
    refine vv_iconst C (v := 2) dL_law_366 (by decide) 367 rfl ?_
    refine vv_iadd C dL_law_367 368 rfl ?_
    refine vv_sld C XS (hin 2 (by decide)) dL_law_368 369 rfl ?_
    refine vv_aload_n C dL_law_369 rfl 3 rfl 370 rfl ?_
    refine vv_callW C XW (fun l hfl => mt_L_setWind l hfl D c X W R T Y (S 0 0) (S 5 0) (S 6 0) (S 7 0) (xs (v4 + 1).toNatClampNeg) (xs (v4 + 2).toNatClampNeg) o f (Sum.inl k) hA (fun k2 e2 => by cases e2; exact hk)) gL_law_L_setWind rfl rfl rfl yd_L_setWind ⟨Nat.le_of_ble_eq_true rfl, Nat.le_of_ble_eq_true rfl⟩ [0, 1, 70] rfl (by decide) (wLaw c X W R B K Q T TB TK TQ Y m0 M o S f) [(true, 0), (true, 1), (false, 2), (false, 3), (false, 4), (false, 5), (false, 6), (false, 7), (false, 8), (false, 9), (false, 10), (false, 11), (false, 12), (false, 13), (false, 14), (false, 15), (false, 16), (false, 17), (false, 18), (false, 19), (false, 20), (false, 21), (false, 22), (false, 23), (false, 24), (false, 25), (false, 26), (false, 27), (false, 28), (false, 29), (false, 30), (false, 31), (false, 32), (false, 33), (false, 34), (false, 35), (false, 36), (false, 37), (false, 38), (false, 39), (false, 40), (false, 41), (false, 42), (false, 43), (false, 44), (false, 45), (false, 46), (false, 47), (false, 48), (false, 49), (false, 50), (false, 51), (false, 52), (false, 53), (false, 54), (false, 55), (false, 56), (false, 57), (false, 58), (false, 59), (false, 60), (false, 61), (false, 62), (false, 63), (false, 64), (false, 65), (false, 66), (false, 67), (false, 68), (false, 69), (true, 2)] rfl (by decide) rfl rfl [] rfl (Nat.le_of_ble_eq_true rfl) ⟨show cells + 1 ≤ 601024 by omega, show slots + 6 ≤ 7293034 by omega⟩ dL_law_370 373 (cells + 1) (slots + 6) rfl ⟨rfl, rfl⟩ ?_
    refine vv_istore C [(5, .int (sel (Sum.inl k : Nat ⊕ (Int32 × Int32 × Int32)) kcL_setWind (fun _ => 0))), (0, .ref b), (1, .ref (X 0)), (2, .ref m0), (3, .ref o), (4, .int v4)] dL_law_373 (by decide) rfl 375 rfl ?_
    refine vv_aload_n C dL_law_375 rfl 3 rfl 376 rfl ?_
    refine vv_aload_n C dL_law_376 rfl 1 rfl 377 rfl ?_
    refine vv_iload C dL_law_377 5 rfl 379 rfl ?_
    refine vv_iconst C (v := 1) dL_law_379 (by decide) 380 rfl ?_
    refine vv_iadd C dL_law_380 381 rfl ?_
    refine vv_sld C XS (hin 1 (by decide)) dL_law_381 382 rfl ?_
    refine vv_aload_n C dL_law_382 rfl 1 rfl 383 rfl ?_
    refine vv_iload C dL_law_383 5 rfl 385 rfl ?_
    refine vv_iconst C (v := 2) dL_law_385 (by decide) 386 rfl ?_
    refine vv_iadd C dL_law_386 387 rfl ?_
    refine vv_sld C XS (hin 2 (by decide)) dL_law_387 388 rfl ?_
    refine vv_callVi C (fun l => mt_X7_setWind l D c (mA m0 M) (S 60 0) (S 61 0) (S 63 0) (S 64 0) (S 65 0) (S 67 0) (xs (v4 + 1).toNatClampNeg) (xs (v4 + 2).toNatClampNeg) q' hB) gL_law_X7_setWind rfl rfl rfl yd_X7_setWind ⟨Nat.le_of_ble_eq_true rfl, Nat.le_of_ble_eq_true rfl⟩ [57] rfl (by decide) 0 rfl rfl (wLaw c X W R B K Q T TB TK TQ Y m0 M o (up (up (up S 60 (fun _ => q'.2.1)) 63 (fun _ => q'.2.2.1)) 64 (fun _ => q'.2.2.2)) f) [(false, 0), (false, 1), (false, 2), (false, 3), (false, 4), (false, 5), (false, 6), (false, 7), (false, 8), (false, 9), (false, 10), (false, 11), (false, 12), (false, 13), (false, 14), (false, 15), (false, 16), (false, 17), (false, 18), (false, 19), (false, 20), (false, 21), (false, 22), (false, 23), (false, 24), (false, 25), (false, 26), (false, 27), (false, 28), (false, 29), (false, 30), (false, 31), (false, 32), (false, 33), (false, 34), (false, 35), (false, 36), (false, 37), (false, 38), (false, 39), (false, 40), (false, 41), (false, 42), (false, 43), (false, 44), (false, 45), (false, 46), (false, 47), (false, 48), (false, 49), (false, 50), (false, 51), (false, 52), (false, 53), (false, 54), (false, 55), (false, 56), (true, 0), (false, 58), (false, 59), (false, 60), (false, 61), (false, 62), (false, 63), (false, 64), (false, 65), (false, 66), (false, 67), (false, 68), (false, 69), (false, 70)] rfl (by decide) rfl rfl [] rfl (Nat.le_of_ble_eq_true rfl) ⟨show cells + 1 + 0 ≤ 601024 by omega, show slots + 6 + 0 ≤ 7293034 by omega⟩ dL_law_388 391 (cells + 1 + 0) (slots + 6 + 0) rfl ⟨rfl, rfl⟩ ?_
    refine vv_istore C [(6, .int q'.1), (5, .int (sel (Sum.inl k : Nat ⊕ (Int32 × Int32 × Int32)) kcL_setWind (fun _ => 0))), (0, .ref b), (1, .ref (X 0)), (2, .ref m0), (3, .ref o), (4, .int v4)] dL_law_391 (by decide) rfl 393 rfl ?_
    refine vv_aload_n C dL_law_393 rfl 4 rfl 394 rfl ?_
    refine vv_callVi C (fun l => mt_X7_thrown l D c (mA m0 M) ((up (up (up S 60 (fun _ => q'.2.1)) 63 (fun _ => q'.2.2.1)) 64 (fun _ => q'.2.2.2)) 60 0) ((up (up (up S 60 (fun _ => q'.2.1)) 63 (fun _ => q'.2.2.1)) 64 (fun _ => q'.2.2.2)) 61 0) ((up (up (up S 60 (fun _ => q'.2.1)) 63 (fun _ => q'.2.2.1)) 64 (fun _ => q'.2.2.2)) 63 0) ((up (up (up S 60 (fun _ => q'.2.1)) 63 (fun _ => q'.2.2.1)) 64 (fun _ => q'.2.2.2)) 64 0) ((up (up (up S 60 (fun _ => q'.2.1)) 63 (fun _ => q'.2.2.1)) 64 (fun _ => q'.2.2.2)) 65 0) ((up (up (up S 60 (fun _ => q'.2.1)) 63 (fun _ => q'.2.2.1)) 64 (fun _ => q'.2.2.2)) 67 0) q'.2.1 rfl) gL_law_X7_thrown rfl rfl rfl yd_X7_thrown ⟨Nat.le_of_ble_eq_true rfl, Nat.le_of_ble_eq_true rfl⟩ [57] rfl (by decide) 0 rfl rfl (wLaw c X W R B K Q T TB TK TQ Y m0 M o (up (up (up S 60 (fun _ => q'.2.1)) 63 (fun _ => q'.2.2.1)) 64 (fun _ => q'.2.2.2)) f) [(false, 0), (false, 1), (false, 2), (false, 3), (false, 4), (false, 5), (false, 6), (false, 7), (false, 8), (false, 9), (false, 10), (false, 11), (false, 12), (false, 13), (false, 14), (false, 15), (false, 16), (false, 17), (false, 18), (false, 19), (false, 20), (false, 21), (false, 22), (false, 23), (false, 24), (false, 25), (false, 26), (false, 27), (false, 28), (false, 29), (false, 30), (false, 31), (false, 32), (false, 33), (false, 34), (false, 35), (false, 36), (false, 37), (false, 38), (false, 39), (false, 40), (false, 41), (false, 42), (false, 43), (false, 44), (false, 45), (false, 46), (false, 47), (false, 48), (false, 49), (false, 50), (false, 51), (false, 52), (false, 53), (false, 54), (false, 55), (false, 56), (true, 0), (false, 58), (false, 59), (false, 60), (false, 61), (false, 62), (false, 63), (false, 64), (false, 65), (false, 66), (false, 67), (false, 68), (false, 69), (false, 70)] rfl (by decide) rfl rfl [] rfl (Nat.le_of_ble_eq_true rfl) ⟨show cells + 1 + 0 ≤ 601024 by omega, show slots + 6 + 0 ≤ 7293034 by omega⟩ dL_law_394 397 (cells + 1 + 0) (slots + 6 + 0) rfl ⟨rfl, rfl⟩ ?_
    refine vv_iload C dL_law_397 1 rfl 399 rfl ?_
    refine vv_icmp_eq C 404 402 dL_law_399 (by decide) rfl (fun _ => ?_) (fun hc => absurd hthr hc)
    refine vv_iload C dL_law_404 1 rfl 406 rfl ?_
    refine vv_if_ne C 421 409 dL_law_406 (by decide) rfl (fun _ => ?_) (fun hc => absurd hc hk0)
    refine vv_goto C 1623 dL_law_421 (by decide) ?_
    refine vv_lv [2, 3, 4, 5, 6] [(0, .ref b), (1, .ref (X 0)), (2, .ref m0), (3, .ref o), (4, .int v4)] rfl ?_
    refine vv_cs (k := cells + (1 + 0)) (n := slots + (6 + 0)) (by omega) (by omega) ?_
    exact K1 _ _ _ _ _ hRel ⟨by omega, by omega, Or.inl (by omega)⟩
  · obtain ⟨hret, hRel⟩ := hval u rfl
    refine vv_aload_n C dL_law_356 rfl 1 rfl 357 rfl ?_
    refine vv_aload_n C dL_law_357 rfl 0 rfl 358 rfl ?_
    refine vv_iload C dL_law_358 4 rfl 360 rfl ?_
    refine vv_iconst C (v := 1) dL_law_360 (by decide) 361 rfl ?_
    refine vv_iadd C dL_law_361 362 rfl ?_
    refine vv_sld C XS (hin 1 (by decide)) dL_law_362 363 rfl ?_
    refine vv_aload_n C dL_law_363 rfl 0 rfl 364 rfl ?_
    refine vv_iload C dL_law_364 4 rfl 366 rfl ?_
    refine vv_iconst C (v := 2) dL_law_366 (by decide) 367 rfl ?_
    refine vv_iadd C dL_law_367 368 rfl ?_
    refine vv_sld C XS (hin 2 (by decide)) dL_law_368 369 rfl ?_
    refine vv_aload_n C dL_law_369 rfl 3 rfl 370 rfl ?_
    refine vv_callW C XW (fun l hfl => mt_L_setWind l hfl D c X W R T Y (S 0 0) (S 5 0) (S 6 0) (S 7 0) (xs (v4 + 1).toNatClampNeg) (xs (v4 + 2).toNatClampNeg) o f (Sum.inr u) hA (fun k2 e2 => nomatch e2)) gL_law_L_setWind rfl rfl rfl yd_L_setWind ⟨Nat.le_of_ble_eq_true rfl, Nat.le_of_ble_eq_true rfl⟩ [0, 1, 70] rfl (by decide) (wLaw c X W R B K Q T TB TK TQ Y m0 M o (up (up S 6 (fun _ => u.2.1)) 7 (fun _ => u.2.2)) (vp_updL f 0 u.1.toInt64)) [(true, 0), (true, 1), (false, 2), (false, 3), (false, 4), (false, 5), (false, 6), (false, 7), (false, 8), (false, 9), (false, 10), (false, 11), (false, 12), (false, 13), (false, 14), (false, 15), (false, 16), (false, 17), (false, 18), (false, 19), (false, 20), (false, 21), (false, 22), (false, 23), (false, 24), (false, 25), (false, 26), (false, 27), (false, 28), (false, 29), (false, 30), (false, 31), (false, 32), (false, 33), (false, 34), (false, 35), (false, 36), (false, 37), (false, 38), (false, 39), (false, 40), (false, 41), (false, 42), (false, 43), (false, 44), (false, 45), (false, 46), (false, 47), (false, 48), (false, 49), (false, 50), (false, 51), (false, 52), (false, 53), (false, 54), (false, 55), (false, 56), (false, 57), (false, 58), (false, 59), (false, 60), (false, 61), (false, 62), (false, 63), (false, 64), (false, 65), (false, 66), (false, 67), (false, 68), (false, 69), (true, 2)] rfl (by decide) rfl rfl [] rfl (Nat.le_of_ble_eq_true rfl) ⟨show cells + 1 ≤ 601024 by omega, show slots + 6 ≤ 7293034 by omega⟩ dL_law_370 373 (cells + 1) (slots + 6) rfl ⟨rfl, rfl⟩ ?_
    refine vv_istore C [(5, .int (sel (Sum.inr u : Nat ⊕ (Int32 × Int32 × Int32)) kcL_setWind (fun _ => 0))), (0, .ref b), (1, .ref (X 0)), (2, .ref m0), (3, .ref o), (4, .int v4)] dL_law_373 (by decide) rfl 375 rfl ?_
    refine vv_aload_n C dL_law_375 rfl 3 rfl 376 rfl ?_
    refine vv_aload_n C dL_law_376 rfl 1 rfl 377 rfl ?_
    refine vv_iload C dL_law_377 5 rfl 379 rfl ?_
    refine vv_iconst C (v := 1) dL_law_379 (by decide) 380 rfl ?_
    refine vv_iadd C dL_law_380 381 rfl ?_
    refine vv_sld C XS (hin 1 (by decide)) dL_law_381 382 rfl ?_
    refine vv_aload_n C dL_law_382 rfl 1 rfl 383 rfl ?_
    refine vv_iload C dL_law_383 5 rfl 385 rfl ?_
    refine vv_iconst C (v := 2) dL_law_385 (by decide) 386 rfl ?_
    refine vv_iadd C dL_law_386 387 rfl ?_
    refine vv_sld C XS (hin 2 (by decide)) dL_law_387 388 rfl ?_
    refine vv_callVi C (fun l => mt_X7_setWind l D c (mA m0 M) (S 60 0) (S 61 0) (S 63 0) (S 64 0) (S 65 0) (S 67 0) (xs (v4 + 1).toNatClampNeg) (xs (v4 + 2).toNatClampNeg) q' hB) gL_law_X7_setWind rfl rfl rfl yd_X7_setWind ⟨Nat.le_of_ble_eq_true rfl, Nat.le_of_ble_eq_true rfl⟩ [57] rfl (by decide) 0 rfl rfl (wLaw c X W R B K Q T TB TK TQ Y m0 M o (up (up (up (up (up S 6 (fun _ => u.2.1)) 7 (fun _ => u.2.2)) 60 (fun _ => q'.2.1)) 63 (fun _ => q'.2.2.1)) 64 (fun _ => q'.2.2.2)) (vp_updL f 0 u.1.toInt64)) [(false, 0), (false, 1), (false, 2), (false, 3), (false, 4), (false, 5), (false, 6), (false, 7), (false, 8), (false, 9), (false, 10), (false, 11), (false, 12), (false, 13), (false, 14), (false, 15), (false, 16), (false, 17), (false, 18), (false, 19), (false, 20), (false, 21), (false, 22), (false, 23), (false, 24), (false, 25), (false, 26), (false, 27), (false, 28), (false, 29), (false, 30), (false, 31), (false, 32), (false, 33), (false, 34), (false, 35), (false, 36), (false, 37), (false, 38), (false, 39), (false, 40), (false, 41), (false, 42), (false, 43), (false, 44), (false, 45), (false, 46), (false, 47), (false, 48), (false, 49), (false, 50), (false, 51), (false, 52), (false, 53), (false, 54), (false, 55), (false, 56), (true, 0), (false, 58), (false, 59), (false, 60), (false, 61), (false, 62), (false, 63), (false, 64), (false, 65), (false, 66), (false, 67), (false, 68), (false, 69), (false, 70)] rfl (by decide) rfl rfl [] rfl (Nat.le_of_ble_eq_true rfl) ⟨show cells + 1 + 0 ≤ 601024 by omega, show slots + 6 + 0 ≤ 7293034 by omega⟩ dL_law_388 391 (cells + 1 + 0) (slots + 6 + 0) rfl ⟨rfl, rfl⟩ ?_
    refine vv_istore C [(6, .int q'.1), (5, .int (sel (Sum.inr u : Nat ⊕ (Int32 × Int32 × Int32)) kcL_setWind (fun _ => 0))), (0, .ref b), (1, .ref (X 0)), (2, .ref m0), (3, .ref o), (4, .int v4)] dL_law_391 (by decide) rfl 393 rfl ?_
    refine vv_aload_n C dL_law_393 rfl 4 rfl 394 rfl ?_
    refine vv_callVi C (fun l => mt_X7_thrown l D c (mA m0 M) ((up (up (up (up (up S 6 (fun _ => u.2.1)) 7 (fun _ => u.2.2)) 60 (fun _ => q'.2.1)) 63 (fun _ => q'.2.2.1)) 64 (fun _ => q'.2.2.2)) 60 0) ((up (up (up (up (up S 6 (fun _ => u.2.1)) 7 (fun _ => u.2.2)) 60 (fun _ => q'.2.1)) 63 (fun _ => q'.2.2.1)) 64 (fun _ => q'.2.2.2)) 61 0) ((up (up (up (up (up S 6 (fun _ => u.2.1)) 7 (fun _ => u.2.2)) 60 (fun _ => q'.2.1)) 63 (fun _ => q'.2.2.1)) 64 (fun _ => q'.2.2.2)) 63 0) ((up (up (up (up (up S 6 (fun _ => u.2.1)) 7 (fun _ => u.2.2)) 60 (fun _ => q'.2.1)) 63 (fun _ => q'.2.2.1)) 64 (fun _ => q'.2.2.2)) 64 0) ((up (up (up (up (up S 6 (fun _ => u.2.1)) 7 (fun _ => u.2.2)) 60 (fun _ => q'.2.1)) 63 (fun _ => q'.2.2.1)) 64 (fun _ => q'.2.2.2)) 65 0) ((up (up (up (up (up S 6 (fun _ => u.2.1)) 7 (fun _ => u.2.2)) 60 (fun _ => q'.2.1)) 63 (fun _ => q'.2.2.1)) 64 (fun _ => q'.2.2.2)) 67 0) q'.2.1 rfl) gL_law_X7_thrown rfl rfl rfl yd_X7_thrown ⟨Nat.le_of_ble_eq_true rfl, Nat.le_of_ble_eq_true rfl⟩ [57] rfl (by decide) 0 rfl rfl (wLaw c X W R B K Q T TB TK TQ Y m0 M o (up (up (up (up (up S 6 (fun _ => u.2.1)) 7 (fun _ => u.2.2)) 60 (fun _ => q'.2.1)) 63 (fun _ => q'.2.2.1)) 64 (fun _ => q'.2.2.2)) (vp_updL f 0 u.1.toInt64)) [(false, 0), (false, 1), (false, 2), (false, 3), (false, 4), (false, 5), (false, 6), (false, 7), (false, 8), (false, 9), (false, 10), (false, 11), (false, 12), (false, 13), (false, 14), (false, 15), (false, 16), (false, 17), (false, 18), (false, 19), (false, 20), (false, 21), (false, 22), (false, 23), (false, 24), (false, 25), (false, 26), (false, 27), (false, 28), (false, 29), (false, 30), (false, 31), (false, 32), (false, 33), (false, 34), (false, 35), (false, 36), (false, 37), (false, 38), (false, 39), (false, 40), (false, 41), (false, 42), (false, 43), (false, 44), (false, 45), (false, 46), (false, 47), (false, 48), (false, 49), (false, 50), (false, 51), (false, 52), (false, 53), (false, 54), (false, 55), (false, 56), (true, 0), (false, 58), (false, 59), (false, 60), (false, 61), (false, 62), (false, 63), (false, 64), (false, 65), (false, 66), (false, 67), (false, 68), (false, 69), (false, 70)] rfl (by decide) rfl rfl [] rfl (Nat.le_of_ble_eq_true rfl) ⟨show cells + 1 + 0 ≤ 601024 by omega, show slots + 6 + 0 ≤ 7293034 by omega⟩ dL_law_394 397 (cells + 1 + 0) (slots + 6 + 0) rfl ⟨rfl, rfl⟩ ?_
    refine vv_iload C dL_law_397 1 rfl 399 rfl ?_
    refine vv_icmp_eq C 404 402 dL_law_399 (by decide) rfl (fun _ => ?_) (fun hc => absurd hthr hc)
    refine vv_iload C dL_law_404 1 rfl 406 rfl ?_
    refine vv_if_ne C 421 409 dL_law_406 (by decide) rfl (fun hc => absurd rfl hc) (fun _ => ?_)
    refine vv_aload_n C dL_law_409 rfl 5 rfl 410 rfl ?_
    refine vv_iconst C (v := 0) dL_law_410 (by decide) 411 rfl ?_
    refine vv_lald C (q0 := 70) rfl (inB_t (by decide)) dL_law_411 412 rfl ?_
    refine vv_iload C dL_law_412 0 rfl 414 rfl ?_
    refine vv_i2l C dL_law_414 415 rfl ?_
    refine vv_lcmp C dL_law_415 416 rfl ?_
    refine vv_if_eq C 421 419 dL_law_416 (by decide) rfl (fun _ => ?_) (fun hc => absurd (by rw [hret]; exact lcmp_self _) hc)
    refine vv_goto C 1623 dL_law_421 (by decide) ?_
    refine vv_lv [2, 3, 4, 5, 6] [(0, .ref b), (1, .ref (X 0)), (2, .ref m0), (3, .ref o), (4, .int v4)] rfl ?_
    refine vv_cs (k := cells + (1 + 0)) (n := slots + (6 + 0)) (by omega) (by omega) ?_
    exact K1 _ _ _ _ _ hRel ⟨by omega, by omega, Or.inl (by omega)⟩
set_option maxHeartbeats 4000000 in
set_option maxRecDepth 100000 in
theorem law_addBarrel {g : CtxT} {D : va_G} {c : Nat → ClassId} {b L : Nat} {xs : Nat → Int32} (C : CX g D c cL_law RL wsL_law 9 room_1) (XS : SXc b L xs g) (XW : WXL g) (X W R B K Q T TB TK TQ Y : Nat → Nat) (m0 : Nat) (M : Nat → Nat) (o : Nat) (S : Nat → Nat → Int32) (f : Nat → Int64) (v4 : Int32) (hin : ∀ j : Nat, j < 8 → vp_in (v4 + nI j) L) (hR : Rel S) (cells slots : Nat) (hroom : cells + 67 ≤ 601024 ∧ slots + 14262 ≤ 7293034)
    (K1 : ∀ (S' : Nat → Nat → Int32) (f' : Nat → Int64) (M' : Nat → Nat) (a b' : Nat), Rel S' → Cost S S' a b' → VV g D 9 (cells + a) (slots + b') (wLaw c X W R B K Q T TB TK TQ Y m0 M' o S' f') [(0, .ref b), (1, .ref (X 0)), (2, .ref m0), (3, .ref o), (4, .int v4)] 1623 []) : VV g D 9 cells slots (wLaw c X W R B K Q T TB TK TQ Y m0 M o S f) [(0, .ref b), (1, .ref (X 0)), (2, .ref m0), (3, .ref o), (4, .int v4)] 424 [] := by
  obtain ⟨q, q', hA, hB, hthr, hexc, hval⟩ := sim_addBarrel S (xs (v4 + 1).toNatClampNeg) (xs (v4 + 2).toNatClampNeg) (xs (v4 + 3).toNatClampNeg) (xs (v4 + 4).toNatClampNeg) hR
  rcases q with k | u
  · obtain ⟨hk, hRel⟩ := hexc k rfl
    have hk0 : ¬ (sel (Sum.inl k : Nat ⊕ (Int32 × Int32 × (Nat → Int32) × (Nat → Int32) × (Nat → Int32) × (Nat → Int32) × (Nat → Int32) × (Nat → Int32) × (Nat → Int32))) kcL_addBarrel (fun _ => 0)) = 0 := by
      rcases (show k = 1 ∨ k = 2 by simpa using hk) with rfl | rfl <;> decide
    refine vv_aload_n C dL_law_424 rfl 1 rfl 425 rfl ?_
    refine vv_aload_n C dL_law_425 rfl 0 rfl 426 rfl ?_
    refine vv_iload C dL_law_426 4 rfl 428 rfl ?_
    refine vv_iconst C (v := 1) dL_law_428 (by decide) 429 rfl ?_
    refine vv_iadd C dL_law_429 430 rfl ?_
    refine vv_sld C XS (hin 1 (by decide)) dL_law_430 431 rfl ?_
    refine vv_aload_n C dL_law_431 rfl 0 rfl 432 rfl ?_
    refine vv_iload C dL_law_432 4 rfl 434 rfl ?_
    refine vv_iconst C (v := 2) dL_law_434 (by decide) 435 rfl ?_
    refine vv_iadd C dL_law_435 436 rfl ?_
    refine vv_sld C XS (hin 2 (by decide)) dL_law_436 437 rfl ?_
    refine vv_aload_n C dL_law_437 rfl 0 rfl 438 rfl ?_
    refine vv_iload C dL_law_438 4 rfl 440 rfl ?_
    refine vv_iconst C (v := 3) dL_law_440 (by decide) 441 rfl ?_
    refine vv_iadd C dL_law_441 442 rfl ?_
    refine vv_sld C XS (hin 3 (by decide)) dL_law_442 443 rfl ?_
    refine vv_aload_n C dL_law_443 rfl 0 rfl 444 rfl ?_
    refine vv_iload C dL_law_444 4 rfl 446 rfl ?_
    refine vv_iconst C (v := 4) dL_law_446 (by decide) 447 rfl ?_
    refine vv_iadd C dL_law_447 448 rfl ?_
    refine vv_sld C XS (hin 4 (by decide)) dL_law_448 449 rfl ?_
    refine vv_aload_n C dL_law_449 rfl 3 rfl 450 rfl ?_
    refine vv_callW C XW (fun l hfl => mt_L_addBarrel l hfl D c X W R B K Q T Y (S 0 0) (S 10 0) (S 11 0) (S 23 0) (S 12) (S 13) (S 14) (S 15) (S 19) (S 20) (S 21) (S 22) (xs (v4 + 1).toNatClampNeg) (xs (v4 + 2).toNatClampNeg) (xs (v4 + 3).toNatClampNeg) (xs (v4 + 4).toNatClampNeg) o f (Sum.inl k) hA (fun k2 e2 => by cases e2; exact hk)) gL_law_L_addBarrel rfl rfl rfl yd_L_addBarrel ⟨Nat.le_of_ble_eq_true rfl, Nat.le_of_ble_eq_true rfl⟩ [0, 6, 9, 10, 11, 12, 13, 17, 18, 19, 20, 70] rfl (by decide) (wLaw c X W R B K Q T TB TK TQ Y m0 M o S f) [(true, 0), (false, 1), (false, 2), (false, 3), (false, 4), (false, 5), (true, 1), (false, 7), (false, 8), (true, 2), (true, 3), (true, 4), (true, 5), (true, 6), (false, 14), (false, 15), (false, 16), (true, 7), (true, 8), (true, 9), (true, 10), (false, 21), (false, 22), (false, 23), (false, 24), (false, 25), (false, 26), (false, 27), (false, 28), (false, 29), (false, 30), (false, 31), (false, 32), (false, 33), (false, 34), (false, 35), (false, 36), (false, 37), (false, 38), (false, 39), (false, 40), (false, 41), (false, 42), (false, 43), (false, 44), (false, 45), (false, 46), (false, 47), (false, 48), (false, 49), (false, 50), (false, 51), (false, 52), (false, 53), (false, 54), (false, 55), (false, 56), (false, 57), (false, 58), (false, 59), (false, 60), (false, 61), (false, 62), (false, 63), (false, 64), (false, 65), (false, 66), (false, 67), (false, 68), (false, 69), (true, 11)] rfl (by decide) rfl rfl [] rfl (Nat.le_of_ble_eq_true rfl) ⟨show cells + 1 ≤ 601024 by omega, show slots + 6 ≤ 7293034 by omega⟩ dL_law_450 453 (cells + 1) (slots + 6) rfl ⟨rfl, rfl⟩ ?_
    refine vv_istore C [(5, .int (sel (Sum.inl k : Nat ⊕ (Int32 × Int32 × (Nat → Int32) × (Nat → Int32) × (Nat → Int32) × (Nat → Int32) × (Nat → Int32) × (Nat → Int32) × (Nat → Int32))) kcL_addBarrel (fun _ => 0))), (0, .ref b), (1, .ref (X 0)), (2, .ref m0), (3, .ref o), (4, .int v4)] dL_law_453 (by decide) rfl 455 rfl ?_
    refine vv_aload_n C dL_law_455 rfl 3 rfl 456 rfl ?_
    refine vv_aload_n C dL_law_456 rfl 1 rfl 457 rfl ?_
    refine vv_iload C dL_law_457 5 rfl 459 rfl ?_
    refine vv_iconst C (v := 1) dL_law_459 (by decide) 460 rfl ?_
    refine vv_iadd C dL_law_460 461 rfl ?_
    refine vv_sld C XS (hin 1 (by decide)) dL_law_461 462 rfl ?_
    refine vv_aload_n C dL_law_462 rfl 1 rfl 463 rfl ?_
    refine vv_iload C dL_law_463 5 rfl 465 rfl ?_
    refine vv_iconst C (v := 2) dL_law_465 (by decide) 466 rfl ?_
    refine vv_iadd C dL_law_466 467 rfl ?_
    refine vv_sld C XS (hin 2 (by decide)) dL_law_467 468 rfl ?_
    refine vv_aload_n C dL_law_468 rfl 1 rfl 469 rfl ?_
    refine vv_iload C dL_law_469 5 rfl 471 rfl ?_
    refine vv_iconst C (v := 3) dL_law_471 (by decide) 472 rfl ?_
    refine vv_iadd C dL_law_472 473 rfl ?_
    refine vv_sld C XS (hin 3 (by decide)) dL_law_473 474 rfl ?_
    refine vv_aload_n C dL_law_474 rfl 1 rfl 475 rfl ?_
    refine vv_iload C dL_law_475 5 rfl 477 rfl ?_
    refine vv_iconst C (v := 4) dL_law_477 (by decide) 478 rfl ?_
    refine vv_iadd C dL_law_478 479 rfl ?_
    refine vv_sld C XS (hin 4 (by decide)) dL_law_479 480 rfl ?_
    refine vv_callVi C (fun l => mt_X7_addBarrel l D c (mA m0 M) (S 60 0) (S 61 0) (S 63 0) (S 64 0) (S 65 0) (S 67 0) (S 66) (S 68) (xs (v4 + 1).toNatClampNeg) (xs (v4 + 2).toNatClampNeg) (xs (v4 + 3).toNatClampNeg) (xs (v4 + 4).toNatClampNeg) q' hB) gL_law_X7_addBarrel rfl rfl rfl yd_X7_addBarrel ⟨Nat.le_of_ble_eq_true rfl, Nat.le_of_ble_eq_true rfl⟩ [57, 59, 60] rfl (by decide) 0 rfl rfl (wLaw c X W R B K Q T TB TK TQ Y m0 M o (up (up (up (up S 60 (fun _ => q'.2.1)) 65 (fun _ => q'.2.2.1)) 66 q'.2.2.2.1) 68 q'.2.2.2.2) f) [(false, 0), (false, 1), (false, 2), (false, 3), (false, 4), (false, 5), (false, 6), (false, 7), (false, 8), (false, 9), (false, 10), (false, 11), (false, 12), (false, 13), (false, 14), (false, 15), (false, 16), (false, 17), (false, 18), (false, 19), (false, 20), (false, 21), (false, 22), (false, 23), (false, 24), (false, 25), (false, 26), (false, 27), (false, 28), (false, 29), (false, 30), (false, 31), (false, 32), (false, 33), (false, 34), (false, 35), (false, 36), (false, 37), (false, 38), (false, 39), (false, 40), (false, 41), (false, 42), (false, 43), (false, 44), (false, 45), (false, 46), (false, 47), (false, 48), (false, 49), (false, 50), (false, 51), (false, 52), (false, 53), (false, 54), (false, 55), (false, 56), (true, 0), (false, 58), (true, 1), (true, 2), (false, 61), (false, 62), (false, 63), (false, 64), (false, 65), (false, 66), (false, 67), (false, 68), (false, 69), (false, 70)] rfl (by decide) rfl rfl [] rfl (Nat.le_of_ble_eq_true rfl) ⟨show cells + 1 + 2 ≤ 601024 by omega, show slots + 6 + 8 ≤ 7293034 by omega⟩ dL_law_480 483 (cells + 1 + 2) (slots + 6 + 8) rfl ⟨rfl, rfl⟩ ?_
    refine vv_istore C [(6, .int q'.1), (5, .int (sel (Sum.inl k : Nat ⊕ (Int32 × Int32 × (Nat → Int32) × (Nat → Int32) × (Nat → Int32) × (Nat → Int32) × (Nat → Int32) × (Nat → Int32) × (Nat → Int32))) kcL_addBarrel (fun _ => 0))), (0, .ref b), (1, .ref (X 0)), (2, .ref m0), (3, .ref o), (4, .int v4)] dL_law_483 (by decide) rfl 485 rfl ?_
    refine vv_aload_n C dL_law_485 rfl 4 rfl 486 rfl ?_
    refine vv_callVi C (fun l => mt_X7_thrown l D c (mA m0 M) ((up (up (up (up S 60 (fun _ => q'.2.1)) 65 (fun _ => q'.2.2.1)) 66 q'.2.2.2.1) 68 q'.2.2.2.2) 60 0) ((up (up (up (up S 60 (fun _ => q'.2.1)) 65 (fun _ => q'.2.2.1)) 66 q'.2.2.2.1) 68 q'.2.2.2.2) 61 0) ((up (up (up (up S 60 (fun _ => q'.2.1)) 65 (fun _ => q'.2.2.1)) 66 q'.2.2.2.1) 68 q'.2.2.2.2) 63 0) ((up (up (up (up S 60 (fun _ => q'.2.1)) 65 (fun _ => q'.2.2.1)) 66 q'.2.2.2.1) 68 q'.2.2.2.2) 64 0) ((up (up (up (up S 60 (fun _ => q'.2.1)) 65 (fun _ => q'.2.2.1)) 66 q'.2.2.2.1) 68 q'.2.2.2.2) 65 0) ((up (up (up (up S 60 (fun _ => q'.2.1)) 65 (fun _ => q'.2.2.1)) 66 q'.2.2.2.1) 68 q'.2.2.2.2) 67 0) q'.2.1 rfl) gL_law_X7_thrown rfl rfl rfl yd_X7_thrown ⟨Nat.le_of_ble_eq_true rfl, Nat.le_of_ble_eq_true rfl⟩ [57] rfl (by decide) 0 rfl rfl (wLaw c X W R B K Q T TB TK TQ Y m0 M o (up (up (up (up S 60 (fun _ => q'.2.1)) 65 (fun _ => q'.2.2.1)) 66 q'.2.2.2.1) 68 q'.2.2.2.2) f) [(false, 0), (false, 1), (false, 2), (false, 3), (false, 4), (false, 5), (false, 6), (false, 7), (false, 8), (false, 9), (false, 10), (false, 11), (false, 12), (false, 13), (false, 14), (false, 15), (false, 16), (false, 17), (false, 18), (false, 19), (false, 20), (false, 21), (false, 22), (false, 23), (false, 24), (false, 25), (false, 26), (false, 27), (false, 28), (false, 29), (false, 30), (false, 31), (false, 32), (false, 33), (false, 34), (false, 35), (false, 36), (false, 37), (false, 38), (false, 39), (false, 40), (false, 41), (false, 42), (false, 43), (false, 44), (false, 45), (false, 46), (false, 47), (false, 48), (false, 49), (false, 50), (false, 51), (false, 52), (false, 53), (false, 54), (false, 55), (false, 56), (true, 0), (false, 58), (false, 59), (false, 60), (false, 61), (false, 62), (false, 63), (false, 64), (false, 65), (false, 66), (false, 67), (false, 68), (false, 69), (false, 70)] rfl (by decide) rfl rfl [] rfl (Nat.le_of_ble_eq_true rfl) ⟨show cells + 1 + 2 ≤ 601024 by omega, show slots + 6 + 8 ≤ 7293034 by omega⟩ dL_law_486 489 (cells + 1 + 2) (slots + 6 + 8) rfl ⟨rfl, rfl⟩ ?_
    refine vv_iload C dL_law_489 1 rfl 491 rfl ?_
    refine vv_icmp_eq C 496 494 dL_law_491 (by decide) rfl (fun _ => ?_) (fun hc => absurd hthr hc)
    refine vv_iload C dL_law_496 1 rfl 498 rfl ?_
    refine vv_if_ne C 513 501 dL_law_498 (by decide) rfl (fun _ => ?_) (fun hc => absurd hc hk0)
    refine vv_goto C 1623 dL_law_513 (by decide) ?_
    refine vv_lv [2, 3, 4, 5, 6] [(0, .ref b), (1, .ref (X 0)), (2, .ref m0), (3, .ref o), (4, .int v4)] rfl ?_
    refine vv_cs (k := cells + (1 + 2)) (n := slots + (6 + 8)) (by omega) (by omega) ?_
    exact K1 _ _ _ _ _ hRel ⟨by omega, by omega, Or.inr ⟨rfl, fun h0 => by omega⟩⟩
  · obtain ⟨hret, hRel⟩ := hval u rfl
    refine vv_aload_n C dL_law_424 rfl 1 rfl 425 rfl ?_
    refine vv_aload_n C dL_law_425 rfl 0 rfl 426 rfl ?_
    refine vv_iload C dL_law_426 4 rfl 428 rfl ?_
    refine vv_iconst C (v := 1) dL_law_428 (by decide) 429 rfl ?_
    refine vv_iadd C dL_law_429 430 rfl ?_
    refine vv_sld C XS (hin 1 (by decide)) dL_law_430 431 rfl ?_
    refine vv_aload_n C dL_law_431 rfl 0 rfl 432 rfl ?_
    refine vv_iload C dL_law_432 4 rfl 434 rfl ?_
    refine vv_iconst C (v := 2) dL_law_434 (by decide) 435 rfl ?_
    refine vv_iadd C dL_law_435 436 rfl ?_
    refine vv_sld C XS (hin 2 (by decide)) dL_law_436 437 rfl ?_
    refine vv_aload_n C dL_law_437 rfl 0 rfl 438 rfl ?_
    refine vv_iload C dL_law_438 4 rfl 440 rfl ?_
    refine vv_iconst C (v := 3) dL_law_440 (by decide) 441 rfl ?_
    refine vv_iadd C dL_law_441 442 rfl ?_
    refine vv_sld C XS (hin 3 (by decide)) dL_law_442 443 rfl ?_
    refine vv_aload_n C dL_law_443 rfl 0 rfl 444 rfl ?_
    refine vv_iload C dL_law_444 4 rfl 446 rfl ?_
    refine vv_iconst C (v := 4) dL_law_446 (by decide) 447 rfl ?_
    refine vv_iadd C dL_law_447 448 rfl ?_
    refine vv_sld C XS (hin 4 (by decide)) dL_law_448 449 rfl ?_
    refine vv_aload_n C dL_law_449 rfl 3 rfl 450 rfl ?_
    refine vv_callW C XW (fun l hfl => mt_L_addBarrel l hfl D c X W R B K Q T Y (S 0 0) (S 10 0) (S 11 0) (S 23 0) (S 12) (S 13) (S 14) (S 15) (S 19) (S 20) (S 21) (S 22) (xs (v4 + 1).toNatClampNeg) (xs (v4 + 2).toNatClampNeg) (xs (v4 + 3).toNatClampNeg) (xs (v4 + 4).toNatClampNeg) o f (Sum.inr u) hA (fun k2 e2 => nomatch e2)) gL_law_L_addBarrel rfl rfl rfl yd_L_addBarrel ⟨Nat.le_of_ble_eq_true rfl, Nat.le_of_ble_eq_true rfl⟩ [0, 6, 9, 10, 11, 12, 13, 17, 18, 19, 20, 70] rfl (by decide) (wLaw c X W R B K Q T TB TK TQ Y m0 M o (up (up (up (up (up (up (up (up S 23 (fun _ => u.2.1)) 12 u.2.2.1) 13 u.2.2.2.1) 14 u.2.2.2.2.1) 15 u.2.2.2.2.2.1) 20 u.2.2.2.2.2.2.1) 21 u.2.2.2.2.2.2.2.1) 22 u.2.2.2.2.2.2.2.2) (vp_updL f 0 u.1.toInt64)) [(true, 0), (false, 1), (false, 2), (false, 3), (false, 4), (false, 5), (true, 1), (false, 7), (false, 8), (true, 2), (true, 3), (true, 4), (true, 5), (true, 6), (false, 14), (false, 15), (false, 16), (true, 7), (true, 8), (true, 9), (true, 10), (false, 21), (false, 22), (false, 23), (false, 24), (false, 25), (false, 26), (false, 27), (false, 28), (false, 29), (false, 30), (false, 31), (false, 32), (false, 33), (false, 34), (false, 35), (false, 36), (false, 37), (false, 38), (false, 39), (false, 40), (false, 41), (false, 42), (false, 43), (false, 44), (false, 45), (false, 46), (false, 47), (false, 48), (false, 49), (false, 50), (false, 51), (false, 52), (false, 53), (false, 54), (false, 55), (false, 56), (false, 57), (false, 58), (false, 59), (false, 60), (false, 61), (false, 62), (false, 63), (false, 64), (false, 65), (false, 66), (false, 67), (false, 68), (false, 69), (true, 11)] rfl (by decide) rfl rfl [] rfl (Nat.le_of_ble_eq_true rfl) ⟨show cells + 1 ≤ 601024 by omega, show slots + 6 ≤ 7293034 by omega⟩ dL_law_450 453 (cells + 1) (slots + 6) rfl ⟨rfl, rfl⟩ ?_
    refine vv_istore C [(5, .int (sel (Sum.inr u : Nat ⊕ (Int32 × Int32 × (Nat → Int32) × (Nat → Int32) × (Nat → Int32) × (Nat → Int32) × (Nat → Int32) × (Nat → Int32) × (Nat → Int32))) kcL_addBarrel (fun _ => 0))), (0, .ref b), (1, .ref (X 0)), (2, .ref m0), (3, .ref o), (4, .int v4)] dL_law_453 (by decide) rfl 455 rfl ?_
    refine vv_aload_n C dL_law_455 rfl 3 rfl 456 rfl ?_
    refine vv_aload_n C dL_law_456 rfl 1 rfl 457 rfl ?_
    refine vv_iload C dL_law_457 5 rfl 459 rfl ?_
    refine vv_iconst C (v := 1) dL_law_459 (by decide) 460 rfl ?_
    refine vv_iadd C dL_law_460 461 rfl ?_
    refine vv_sld C XS (hin 1 (by decide)) dL_law_461 462 rfl ?_
    refine vv_aload_n C dL_law_462 rfl 1 rfl 463 rfl ?_
    refine vv_iload C dL_law_463 5 rfl 465 rfl ?_
    refine vv_iconst C (v := 2) dL_law_465 (by decide) 466 rfl ?_
    refine vv_iadd C dL_law_466 467 rfl ?_
    refine vv_sld C XS (hin 2 (by decide)) dL_law_467 468 rfl ?_
    refine vv_aload_n C dL_law_468 rfl 1 rfl 469 rfl ?_
    refine vv_iload C dL_law_469 5 rfl 471 rfl ?_
    refine vv_iconst C (v := 3) dL_law_471 (by decide) 472 rfl ?_
    refine vv_iadd C dL_law_472 473 rfl ?_
    refine vv_sld C XS (hin 3 (by decide)) dL_law_473 474 rfl ?_
    refine vv_aload_n C dL_law_474 rfl 1 rfl 475 rfl ?_
    refine vv_iload C dL_law_475 5 rfl 477 rfl ?_
    refine vv_iconst C (v := 4) dL_law_477 (by decide) 478 rfl ?_
    refine vv_iadd C dL_law_478 479 rfl ?_
    refine vv_sld C XS (hin 4 (by decide)) dL_law_479 480 rfl ?_
    refine vv_callVi C (fun l => mt_X7_addBarrel l D c (mA m0 M) (S 60 0) (S 61 0) (S 63 0) (S 64 0) (S 65 0) (S 67 0) (S 66) (S 68) (xs (v4 + 1).toNatClampNeg) (xs (v4 + 2).toNatClampNeg) (xs (v4 + 3).toNatClampNeg) (xs (v4 + 4).toNatClampNeg) q' hB) gL_law_X7_addBarrel rfl rfl rfl yd_X7_addBarrel ⟨Nat.le_of_ble_eq_true rfl, Nat.le_of_ble_eq_true rfl⟩ [57, 59, 60] rfl (by decide) 0 rfl rfl (wLaw c X W R B K Q T TB TK TQ Y m0 M o (up (up (up (up (up (up (up (up (up (up (up (up S 23 (fun _ => u.2.1)) 12 u.2.2.1) 13 u.2.2.2.1) 14 u.2.2.2.2.1) 15 u.2.2.2.2.2.1) 20 u.2.2.2.2.2.2.1) 21 u.2.2.2.2.2.2.2.1) 22 u.2.2.2.2.2.2.2.2) 60 (fun _ => q'.2.1)) 65 (fun _ => q'.2.2.1)) 66 q'.2.2.2.1) 68 q'.2.2.2.2) (vp_updL f 0 u.1.toInt64)) [(false, 0), (false, 1), (false, 2), (false, 3), (false, 4), (false, 5), (false, 6), (false, 7), (false, 8), (false, 9), (false, 10), (false, 11), (false, 12), (false, 13), (false, 14), (false, 15), (false, 16), (false, 17), (false, 18), (false, 19), (false, 20), (false, 21), (false, 22), (false, 23), (false, 24), (false, 25), (false, 26), (false, 27), (false, 28), (false, 29), (false, 30), (false, 31), (false, 32), (false, 33), (false, 34), (false, 35), (false, 36), (false, 37), (false, 38), (false, 39), (false, 40), (false, 41), (false, 42), (false, 43), (false, 44), (false, 45), (false, 46), (false, 47), (false, 48), (false, 49), (false, 50), (false, 51), (false, 52), (false, 53), (false, 54), (false, 55), (false, 56), (true, 0), (false, 58), (true, 1), (true, 2), (false, 61), (false, 62), (false, 63), (false, 64), (false, 65), (false, 66), (false, 67), (false, 68), (false, 69), (false, 70)] rfl (by decide) rfl rfl [] rfl (Nat.le_of_ble_eq_true rfl) ⟨show cells + 1 + 2 ≤ 601024 by omega, show slots + 6 + 8 ≤ 7293034 by omega⟩ dL_law_480 483 (cells + 1 + 2) (slots + 6 + 8) rfl ⟨rfl, rfl⟩ ?_
    refine vv_istore C [(6, .int q'.1), (5, .int (sel (Sum.inr u : Nat ⊕ (Int32 × Int32 × (Nat → Int32) × (Nat → Int32) × (Nat → Int32) × (Nat → Int32) × (Nat → Int32) × (Nat → Int32) × (Nat → Int32))) kcL_addBarrel (fun _ => 0))), (0, .ref b), (1, .ref (X 0)), (2, .ref m0), (3, .ref o), (4, .int v4)] dL_law_483 (by decide) rfl 485 rfl ?_
    refine vv_aload_n C dL_law_485 rfl 4 rfl 486 rfl ?_
    refine vv_callVi C (fun l => mt_X7_thrown l D c (mA m0 M) ((up (up (up (up (up (up (up (up (up (up (up (up S 23 (fun _ => u.2.1)) 12 u.2.2.1) 13 u.2.2.2.1) 14 u.2.2.2.2.1) 15 u.2.2.2.2.2.1) 20 u.2.2.2.2.2.2.1) 21 u.2.2.2.2.2.2.2.1) 22 u.2.2.2.2.2.2.2.2) 60 (fun _ => q'.2.1)) 65 (fun _ => q'.2.2.1)) 66 q'.2.2.2.1) 68 q'.2.2.2.2) 60 0) ((up (up (up (up (up (up (up (up (up (up (up (up S 23 (fun _ => u.2.1)) 12 u.2.2.1) 13 u.2.2.2.1) 14 u.2.2.2.2.1) 15 u.2.2.2.2.2.1) 20 u.2.2.2.2.2.2.1) 21 u.2.2.2.2.2.2.2.1) 22 u.2.2.2.2.2.2.2.2) 60 (fun _ => q'.2.1)) 65 (fun _ => q'.2.2.1)) 66 q'.2.2.2.1) 68 q'.2.2.2.2) 61 0) ((up (up (up (up (up (up (up (up (up (up (up (up S 23 (fun _ => u.2.1)) 12 u.2.2.1) 13 u.2.2.2.1) 14 u.2.2.2.2.1) 15 u.2.2.2.2.2.1) 20 u.2.2.2.2.2.2.1) 21 u.2.2.2.2.2.2.2.1) 22 u.2.2.2.2.2.2.2.2) 60 (fun _ => q'.2.1)) 65 (fun _ => q'.2.2.1)) 66 q'.2.2.2.1) 68 q'.2.2.2.2) 63 0) ((up (up (up (up (up (up (up (up (up (up (up (up S 23 (fun _ => u.2.1)) 12 u.2.2.1) 13 u.2.2.2.1) 14 u.2.2.2.2.1) 15 u.2.2.2.2.2.1) 20 u.2.2.2.2.2.2.1) 21 u.2.2.2.2.2.2.2.1) 22 u.2.2.2.2.2.2.2.2) 60 (fun _ => q'.2.1)) 65 (fun _ => q'.2.2.1)) 66 q'.2.2.2.1) 68 q'.2.2.2.2) 64 0) ((up (up (up (up (up (up (up (up (up (up (up (up S 23 (fun _ => u.2.1)) 12 u.2.2.1) 13 u.2.2.2.1) 14 u.2.2.2.2.1) 15 u.2.2.2.2.2.1) 20 u.2.2.2.2.2.2.1) 21 u.2.2.2.2.2.2.2.1) 22 u.2.2.2.2.2.2.2.2) 60 (fun _ => q'.2.1)) 65 (fun _ => q'.2.2.1)) 66 q'.2.2.2.1) 68 q'.2.2.2.2) 65 0) ((up (up (up (up (up (up (up (up (up (up (up (up S 23 (fun _ => u.2.1)) 12 u.2.2.1) 13 u.2.2.2.1) 14 u.2.2.2.2.1) 15 u.2.2.2.2.2.1) 20 u.2.2.2.2.2.2.1) 21 u.2.2.2.2.2.2.2.1) 22 u.2.2.2.2.2.2.2.2) 60 (fun _ => q'.2.1)) 65 (fun _ => q'.2.2.1)) 66 q'.2.2.2.1) 68 q'.2.2.2.2) 67 0) q'.2.1 rfl) gL_law_X7_thrown rfl rfl rfl yd_X7_thrown ⟨Nat.le_of_ble_eq_true rfl, Nat.le_of_ble_eq_true rfl⟩ [57] rfl (by decide) 0 rfl rfl (wLaw c X W R B K Q T TB TK TQ Y m0 M o (up (up (up (up (up (up (up (up (up (up (up (up S 23 (fun _ => u.2.1)) 12 u.2.2.1) 13 u.2.2.2.1) 14 u.2.2.2.2.1) 15 u.2.2.2.2.2.1) 20 u.2.2.2.2.2.2.1) 21 u.2.2.2.2.2.2.2.1) 22 u.2.2.2.2.2.2.2.2) 60 (fun _ => q'.2.1)) 65 (fun _ => q'.2.2.1)) 66 q'.2.2.2.1) 68 q'.2.2.2.2) (vp_updL f 0 u.1.toInt64)) [(false, 0), (false, 1), (false, 2), (false, 3), (false, 4), (false, 5), (false, 6), (false, 7), (false, 8), (false, 9), (false, 10), (false, 11), (false, 12), (false, 13), (false, 14), (false, 15), (false, 16), (false, 17), (false, 18), (false, 19), (false, 20), (false, 21), (false, 22), (false, 23), (false, 24), (false, 25), (false, 26), (false, 27), (false, 28), (false, 29), (false, 30), (false, 31), (false, 32), (false, 33), (false, 34), (false, 35), (false, 36), (false, 37), (false, 38), (false, 39), (false, 40), (false, 41), (false, 42), (false, 43), (false, 44), (false, 45), (false, 46), (false, 47), (false, 48), (false, 49), (false, 50), (false, 51), (false, 52), (false, 53), (false, 54), (false, 55), (false, 56), (true, 0), (false, 58), (false, 59), (false, 60), (false, 61), (false, 62), (false, 63), (false, 64), (false, 65), (false, 66), (false, 67), (false, 68), (false, 69), (false, 70)] rfl (by decide) rfl rfl [] rfl (Nat.le_of_ble_eq_true rfl) ⟨show cells + 1 + 2 ≤ 601024 by omega, show slots + 6 + 8 ≤ 7293034 by omega⟩ dL_law_486 489 (cells + 1 + 2) (slots + 6 + 8) rfl ⟨rfl, rfl⟩ ?_
    refine vv_iload C dL_law_489 1 rfl 491 rfl ?_
    refine vv_icmp_eq C 496 494 dL_law_491 (by decide) rfl (fun _ => ?_) (fun hc => absurd hthr hc)
    refine vv_iload C dL_law_496 1 rfl 498 rfl ?_
    refine vv_if_ne C 513 501 dL_law_498 (by decide) rfl (fun hc => absurd rfl hc) (fun _ => ?_)
    refine vv_aload_n C dL_law_501 rfl 5 rfl 502 rfl ?_
    refine vv_iconst C (v := 0) dL_law_502 (by decide) 503 rfl ?_
    refine vv_lald C (q0 := 70) rfl (inB_t (by decide)) dL_law_503 504 rfl ?_
    refine vv_iload C dL_law_504 0 rfl 506 rfl ?_
    refine vv_i2l C dL_law_506 507 rfl ?_
    refine vv_lcmp C dL_law_507 508 rfl ?_
    refine vv_if_eq C 513 511 dL_law_508 (by decide) rfl (fun _ => ?_) (fun hc => absurd (by rw [hret]; exact lcmp_self _) hc)
    refine vv_goto C 1623 dL_law_513 (by decide) ?_
    refine vv_lv [2, 3, 4, 5, 6] [(0, .ref b), (1, .ref (X 0)), (2, .ref m0), (3, .ref o), (4, .int v4)] rfl ?_
    refine vv_cs (k := cells + (1 + 2)) (n := slots + (6 + 8)) (by omega) (by omega) ?_
    exact K1 _ _ _ _ _ hRel ⟨by omega, by omega, Or.inr ⟨rfl, fun h0 => by omega⟩⟩
set_option maxHeartbeats 4000000 in
set_option maxRecDepth 100000 in
theorem law_tie {g : CtxT} {D : va_G} {c : Nat → ClassId} {b L : Nat} {xs : Nat → Int32} (C : CX g D c cL_law RL wsL_law 9 room_1) (XS : SXc b L xs g) (XW : WXL g) (X W R B K Q T TB TK TQ Y : Nat → Nat) (m0 : Nat) (M : Nat → Nat) (o : Nat) (S : Nat → Nat → Int32) (f : Nat → Int64) (v4 : Int32) (hin : ∀ j : Nat, j < 8 → vp_in (v4 + nI j) L) (hR : Rel S) (cells slots : Nat) (hroom : cells + 67 ≤ 601024 ∧ slots + 14262 ≤ 7293034)
    (K1 : ∀ (S' : Nat → Nat → Int32) (f' : Nat → Int64) (M' : Nat → Nat) (a b' : Nat), Rel S' → Cost S S' a b' → VV g D 9 (cells + a) (slots + b') (wLaw c X W R B K Q T TB TK TQ Y m0 M' o S' f') [(0, .ref b), (1, .ref (X 0)), (2, .ref m0), (3, .ref o), (4, .int v4)] 1623 []) : VV g D 9 cells slots (wLaw c X W R B K Q T TB TK TQ Y m0 M o S f) [(0, .ref b), (1, .ref (X 0)), (2, .ref m0), (3, .ref o), (4, .int v4)] 516 [] := by
  obtain ⟨q, q', hA, hB, hthr, hexc, hval⟩ := sim_tie S (xs (v4 + 1).toNatClampNeg) (xs (v4 + 2).toNatClampNeg) (xs (v4 + 3).toNatClampNeg) hR
  rcases q with k | u
  · obtain ⟨hk, hRel⟩ := hexc k rfl
    have hk0 : ¬ (sel (Sum.inl k : Nat ⊕ (Int32 × Int32 × (Nat → Int32) × Int32 × (Nat → Int32) × (Nat → Int32) × (Nat → Int32) × (Nat → Int32))) kcL_tie (fun _ => 0)) = 0 := by
      rcases (show k = 3 ∨ k = 1 ∨ k = 2 by simpa using hk) with rfl | rfl | rfl <;> decide
    refine vv_aload_n C dL_law_516 rfl 1 rfl 517 rfl ?_
    refine vv_aload_n C dL_law_517 rfl 0 rfl 518 rfl ?_
    refine vv_iload C dL_law_518 4 rfl 520 rfl ?_
    refine vv_iconst C (v := 1) dL_law_520 (by decide) 521 rfl ?_
    refine vv_iadd C dL_law_521 522 rfl ?_
    refine vv_sld C XS (hin 1 (by decide)) dL_law_522 523 rfl ?_
    refine vv_aload_n C dL_law_523 rfl 0 rfl 524 rfl ?_
    refine vv_iload C dL_law_524 4 rfl 526 rfl ?_
    refine vv_iconst C (v := 2) dL_law_526 (by decide) 527 rfl ?_
    refine vv_iadd C dL_law_527 528 rfl ?_
    refine vv_sld C XS (hin 2 (by decide)) dL_law_528 529 rfl ?_
    refine vv_aload_n C dL_law_529 rfl 0 rfl 530 rfl ?_
    refine vv_iload C dL_law_530 4 rfl 532 rfl ?_
    refine vv_iconst C (v := 3) dL_law_532 (by decide) 533 rfl ?_
    refine vv_iadd C dL_law_533 534 rfl ?_
    refine vv_sld C XS (hin 3 (by decide)) dL_law_534 535 rfl ?_
    refine vv_aload_n C dL_law_535 rfl 3 rfl 536 rfl ?_
    refine vv_callW C XW (fun l hfl => mt_L_tie l hfl D c X W R B K Q T Y (S 0 0) (S 10 0) (S 11 0) (S 23 0) (S 12) (S 13) (S 19) (S 20) (S 21) (S 22) (S 31 0) (S 27) (S 28) (S 29) (S 30) (xs (v4 + 1).toNatClampNeg) (xs (v4 + 2).toNatClampNeg) (xs (v4 + 3).toNatClampNeg) o f (Sum.inl k) hA (fun k2 e2 => by cases e2; exact hk)) gL_law_L_tie rfl rfl rfl yd_L_tie ⟨Nat.le_of_ble_eq_true rfl, Nat.le_of_ble_eq_true rfl⟩ [0, 6, 9, 10, 11, 17, 18, 19, 20, 24, 25, 26, 27, 28, 70] rfl (by decide) (wLaw c X W R B K Q T TB TK TQ Y m0 M o S f) [(true, 0), (false, 1), (false, 2), (false, 3), (false, 4), (false, 5), (true, 1), (false, 7), (false, 8), (true, 2), (true, 3), (true, 4), (false, 12), (false, 13), (false, 14), (false, 15), (false, 16), (true, 5), (true, 6), (true, 7), (true, 8), (false, 21), (false, 22), (false, 23), (true, 9), (true, 10), (true, 11), (true, 12), (true, 13), (false, 29), (false, 30), (false, 31), (false, 32), (false, 33), (false, 34), (false, 35), (false, 36), (false, 37), (false, 38), (false, 39), (false, 40), (false, 41), (false, 42), (false, 43), (false, 44), (false, 45), (false, 46), (false, 47), (false, 48), (false, 49), (false, 50), (false, 51), (false, 52), (false, 53), (false, 54), (false, 55), (false, 56), (false, 57), (false, 58), (false, 59), (false, 60), (false, 61), (false, 62), (false, 63), (false, 64), (false, 65), (false, 66), (false, 67), (false, 68), (false, 69), (true, 14)] rfl (by decide) rfl rfl [] rfl (Nat.le_of_ble_eq_true rfl) ⟨show cells + 1 ≤ 601024 by omega, show slots + 6 ≤ 7293034 by omega⟩ dL_law_536 539 (cells + 1) (slots + 6) rfl ⟨rfl, rfl⟩ ?_
    refine vv_istore C [(5, .int (sel (Sum.inl k : Nat ⊕ (Int32 × Int32 × (Nat → Int32) × Int32 × (Nat → Int32) × (Nat → Int32) × (Nat → Int32) × (Nat → Int32))) kcL_tie (fun _ => 0))), (0, .ref b), (1, .ref (X 0)), (2, .ref m0), (3, .ref o), (4, .int v4)] dL_law_539 (by decide) rfl 541 rfl ?_
    refine vv_aload_n C dL_law_541 rfl 3 rfl 542 rfl ?_
    refine vv_aload_n C dL_law_542 rfl 1 rfl 543 rfl ?_
    refine vv_iload C dL_law_543 5 rfl 545 rfl ?_
    refine vv_iconst C (v := 1) dL_law_545 (by decide) 546 rfl ?_
    refine vv_iadd C dL_law_546 547 rfl ?_
    refine vv_sld C XS (hin 1 (by decide)) dL_law_547 548 rfl ?_
    refine vv_aload_n C dL_law_548 rfl 1 rfl 549 rfl ?_
    refine vv_iload C dL_law_549 5 rfl 551 rfl ?_
    refine vv_iconst C (v := 2) dL_law_551 (by decide) 552 rfl ?_
    refine vv_iadd C dL_law_552 553 rfl ?_
    refine vv_sld C XS (hin 2 (by decide)) dL_law_553 554 rfl ?_
    refine vv_aload_n C dL_law_554 rfl 1 rfl 555 rfl ?_
    refine vv_iload C dL_law_555 5 rfl 557 rfl ?_
    refine vv_iconst C (v := 3) dL_law_557 (by decide) 558 rfl ?_
    refine vv_iadd C dL_law_558 559 rfl ?_
    refine vv_sld C XS (hin 3 (by decide)) dL_law_559 560 rfl ?_
    refine vv_callVi C (fun l => mt_X7_tie l D c (mA m0 M) (S 60 0) (S 61 0) (S 63 0) (S 64 0) (S 65 0) (S 67 0) (S 66) (S 68) (S 69) (S 70) (S 72) (xs (v4 + 1).toNatClampNeg) (xs (v4 + 2).toNatClampNeg) (xs (v4 + 3).toNatClampNeg) q' hB) gL_law_X7_tie rfl rfl rfl yd_X7_tie ⟨Nat.le_of_ble_eq_true rfl, Nat.le_of_ble_eq_true rfl⟩ [57, 59, 60, 61, 62, 64] rfl (by decide) 0 rfl rfl (wLaw c X W R B K Q T TB TK TQ Y m0 M o (up (up (up (up S 60 (fun _ => q'.2.1)) 69 q'.2.2.1) 70 q'.2.2.2.1) 72 q'.2.2.2.2) f) [(false, 0), (false, 1), (false, 2), (false, 3), (false, 4), (false, 5), (false, 6), (false, 7), (false, 8), (false, 9), (false, 10), (false, 11), (false, 12), (false, 13), (false, 14), (false, 15), (false, 16), (false, 17), (false, 18), (false, 19), (false, 20), (false, 21), (false, 22), (false, 23), (false, 24), (false, 25), (false, 26), (false, 27), (false, 28), (false, 29), (false, 30), (false, 31), (false, 32), (false, 33), (false, 34), (false, 35), (false, 36), (false, 37), (false, 38), (false, 39), (false, 40), (false, 41), (false, 42), (false, 43), (false, 44), (false, 45), (false, 46), (false, 47), (false, 48), (false, 49), (false, 50), (false, 51), (false, 52), (false, 53), (false, 54), (false, 55), (false, 56), (true, 0), (false, 58), (true, 1), (true, 2), (true, 3), (true, 4), (false, 63), (true, 5), (false, 65), (false, 66), (false, 67), (false, 68), (false, 69), (false, 70)] rfl (by decide) rfl rfl [] rfl (Nat.le_of_ble_eq_true rfl) ⟨show cells + 1 + 0 ≤ 601024 by omega, show slots + 6 + 0 ≤ 7293034 by omega⟩ dL_law_560 563 (cells + 1 + 0) (slots + 6 + 0) rfl ⟨rfl, rfl⟩ ?_
    refine vv_istore C [(6, .int q'.1), (5, .int (sel (Sum.inl k : Nat ⊕ (Int32 × Int32 × (Nat → Int32) × Int32 × (Nat → Int32) × (Nat → Int32) × (Nat → Int32) × (Nat → Int32))) kcL_tie (fun _ => 0))), (0, .ref b), (1, .ref (X 0)), (2, .ref m0), (3, .ref o), (4, .int v4)] dL_law_563 (by decide) rfl 565 rfl ?_
    refine vv_aload_n C dL_law_565 rfl 4 rfl 566 rfl ?_
    refine vv_callVi C (fun l => mt_X7_thrown l D c (mA m0 M) ((up (up (up (up S 60 (fun _ => q'.2.1)) 69 q'.2.2.1) 70 q'.2.2.2.1) 72 q'.2.2.2.2) 60 0) ((up (up (up (up S 60 (fun _ => q'.2.1)) 69 q'.2.2.1) 70 q'.2.2.2.1) 72 q'.2.2.2.2) 61 0) ((up (up (up (up S 60 (fun _ => q'.2.1)) 69 q'.2.2.1) 70 q'.2.2.2.1) 72 q'.2.2.2.2) 63 0) ((up (up (up (up S 60 (fun _ => q'.2.1)) 69 q'.2.2.1) 70 q'.2.2.2.1) 72 q'.2.2.2.2) 64 0) ((up (up (up (up S 60 (fun _ => q'.2.1)) 69 q'.2.2.1) 70 q'.2.2.2.1) 72 q'.2.2.2.2) 65 0) ((up (up (up (up S 60 (fun _ => q'.2.1)) 69 q'.2.2.1) 70 q'.2.2.2.1) 72 q'.2.2.2.2) 67 0) q'.2.1 rfl) gL_law_X7_thrown rfl rfl rfl yd_X7_thrown ⟨Nat.le_of_ble_eq_true rfl, Nat.le_of_ble_eq_true rfl⟩ [57] rfl (by decide) 0 rfl rfl (wLaw c X W R B K Q T TB TK TQ Y m0 M o (up (up (up (up S 60 (fun _ => q'.2.1)) 69 q'.2.2.1) 70 q'.2.2.2.1) 72 q'.2.2.2.2) f) [(false, 0), (false, 1), (false, 2), (false, 3), (false, 4), (false, 5), (false, 6), (false, 7), (false, 8), (false, 9), (false, 10), (false, 11), (false, 12), (false, 13), (false, 14), (false, 15), (false, 16), (false, 17), (false, 18), (false, 19), (false, 20), (false, 21), (false, 22), (false, 23), (false, 24), (false, 25), (false, 26), (false, 27), (false, 28), (false, 29), (false, 30), (false, 31), (false, 32), (false, 33), (false, 34), (false, 35), (false, 36), (false, 37), (false, 38), (false, 39), (false, 40), (false, 41), (false, 42), (false, 43), (false, 44), (false, 45), (false, 46), (false, 47), (false, 48), (false, 49), (false, 50), (false, 51), (false, 52), (false, 53), (false, 54), (false, 55), (false, 56), (true, 0), (false, 58), (false, 59), (false, 60), (false, 61), (false, 62), (false, 63), (false, 64), (false, 65), (false, 66), (false, 67), (false, 68), (false, 69), (false, 70)] rfl (by decide) rfl rfl [] rfl (Nat.le_of_ble_eq_true rfl) ⟨show cells + 1 + 0 ≤ 601024 by omega, show slots + 6 + 0 ≤ 7293034 by omega⟩ dL_law_566 569 (cells + 1 + 0) (slots + 6 + 0) rfl ⟨rfl, rfl⟩ ?_
    refine vv_iload C dL_law_569 1 rfl 571 rfl ?_
    refine vv_icmp_eq C 576 574 dL_law_571 (by decide) rfl (fun _ => ?_) (fun hc => absurd hthr hc)
    refine vv_iload C dL_law_576 1 rfl 578 rfl ?_
    refine vv_if_ne C 593 581 dL_law_578 (by decide) rfl (fun _ => ?_) (fun hc => absurd hc hk0)
    refine vv_goto C 1623 dL_law_593 (by decide) ?_
    refine vv_lv [2, 3, 4, 5, 6] [(0, .ref b), (1, .ref (X 0)), (2, .ref m0), (3, .ref o), (4, .int v4)] rfl ?_
    refine vv_cs (k := cells + (1 + 0)) (n := slots + (6 + 0)) (by omega) (by omega) ?_
    exact K1 _ _ _ _ _ hRel ⟨by omega, by omega, Or.inl (by omega)⟩
  · obtain ⟨hret, hRel⟩ := hval u rfl
    refine vv_aload_n C dL_law_516 rfl 1 rfl 517 rfl ?_
    refine vv_aload_n C dL_law_517 rfl 0 rfl 518 rfl ?_
    refine vv_iload C dL_law_518 4 rfl 520 rfl ?_
    refine vv_iconst C (v := 1) dL_law_520 (by decide) 521 rfl ?_
    refine vv_iadd C dL_law_521 522 rfl ?_
    refine vv_sld C XS (hin 1 (by decide)) dL_law_522 523 rfl ?_
    refine vv_aload_n C dL_law_523 rfl 0 rfl 524 rfl ?_
    refine vv_iload C dL_law_524 4 rfl 526 rfl ?_
    refine vv_iconst C (v := 2) dL_law_526 (by decide) 527 rfl ?_
    refine vv_iadd C dL_law_527 528 rfl ?_
    refine vv_sld C XS (hin 2 (by decide)) dL_law_528 529 rfl ?_
    refine vv_aload_n C dL_law_529 rfl 0 rfl 530 rfl ?_
    refine vv_iload C dL_law_530 4 rfl 532 rfl ?_
    refine vv_iconst C (v := 3) dL_law_532 (by decide) 533 rfl ?_
    refine vv_iadd C dL_law_533 534 rfl ?_
    refine vv_sld C XS (hin 3 (by decide)) dL_law_534 535 rfl ?_
    refine vv_aload_n C dL_law_535 rfl 3 rfl 536 rfl ?_
    refine vv_callW C XW (fun l hfl => mt_L_tie l hfl D c X W R B K Q T Y (S 0 0) (S 10 0) (S 11 0) (S 23 0) (S 12) (S 13) (S 19) (S 20) (S 21) (S 22) (S 31 0) (S 27) (S 28) (S 29) (S 30) (xs (v4 + 1).toNatClampNeg) (xs (v4 + 2).toNatClampNeg) (xs (v4 + 3).toNatClampNeg) o f (Sum.inr u) hA (fun k2 e2 => nomatch e2)) gL_law_L_tie rfl rfl rfl yd_L_tie ⟨Nat.le_of_ble_eq_true rfl, Nat.le_of_ble_eq_true rfl⟩ [0, 6, 9, 10, 11, 17, 18, 19, 20, 24, 25, 26, 27, 28, 70] rfl (by decide) (wLaw c X W R B K Q T TB TK TQ Y m0 M o (up (up (up (up (up (up (up S 0 (fun _ => u.2.1)) 22 u.2.2.1) 31 (fun _ => u.2.2.2.1)) 27 u.2.2.2.2.1) 28 u.2.2.2.2.2.1) 29 u.2.2.2.2.2.2.1) 30 u.2.2.2.2.2.2.2) (vp_updL f 0 u.1.toInt64)) [(true, 0), (false, 1), (false, 2), (false, 3), (false, 4), (false, 5), (true, 1), (false, 7), (false, 8), (true, 2), (true, 3), (true, 4), (false, 12), (false, 13), (false, 14), (false, 15), (false, 16), (true, 5), (true, 6), (true, 7), (true, 8), (false, 21), (false, 22), (false, 23), (true, 9), (true, 10), (true, 11), (true, 12), (true, 13), (false, 29), (false, 30), (false, 31), (false, 32), (false, 33), (false, 34), (false, 35), (false, 36), (false, 37), (false, 38), (false, 39), (false, 40), (false, 41), (false, 42), (false, 43), (false, 44), (false, 45), (false, 46), (false, 47), (false, 48), (false, 49), (false, 50), (false, 51), (false, 52), (false, 53), (false, 54), (false, 55), (false, 56), (false, 57), (false, 58), (false, 59), (false, 60), (false, 61), (false, 62), (false, 63), (false, 64), (false, 65), (false, 66), (false, 67), (false, 68), (false, 69), (true, 14)] rfl (by decide) rfl rfl [] rfl (Nat.le_of_ble_eq_true rfl) ⟨show cells + 1 ≤ 601024 by omega, show slots + 6 ≤ 7293034 by omega⟩ dL_law_536 539 (cells + 1) (slots + 6) rfl ⟨rfl, rfl⟩ ?_
    refine vv_istore C [(5, .int (sel (Sum.inr u : Nat ⊕ (Int32 × Int32 × (Nat → Int32) × Int32 × (Nat → Int32) × (Nat → Int32) × (Nat → Int32) × (Nat → Int32))) kcL_tie (fun _ => 0))), (0, .ref b), (1, .ref (X 0)), (2, .ref m0), (3, .ref o), (4, .int v4)] dL_law_539 (by decide) rfl 541 rfl ?_
    refine vv_aload_n C dL_law_541 rfl 3 rfl 542 rfl ?_
    refine vv_aload_n C dL_law_542 rfl 1 rfl 543 rfl ?_
    refine vv_iload C dL_law_543 5 rfl 545 rfl ?_
    refine vv_iconst C (v := 1) dL_law_545 (by decide) 546 rfl ?_
    refine vv_iadd C dL_law_546 547 rfl ?_
    refine vv_sld C XS (hin 1 (by decide)) dL_law_547 548 rfl ?_
    refine vv_aload_n C dL_law_548 rfl 1 rfl 549 rfl ?_
    refine vv_iload C dL_law_549 5 rfl 551 rfl ?_
    refine vv_iconst C (v := 2) dL_law_551 (by decide) 552 rfl ?_
    refine vv_iadd C dL_law_552 553 rfl ?_
    refine vv_sld C XS (hin 2 (by decide)) dL_law_553 554 rfl ?_
    refine vv_aload_n C dL_law_554 rfl 1 rfl 555 rfl ?_
    refine vv_iload C dL_law_555 5 rfl 557 rfl ?_
    refine vv_iconst C (v := 3) dL_law_557 (by decide) 558 rfl ?_
    refine vv_iadd C dL_law_558 559 rfl ?_
    refine vv_sld C XS (hin 3 (by decide)) dL_law_559 560 rfl ?_
    refine vv_callVi C (fun l => mt_X7_tie l D c (mA m0 M) (S 60 0) (S 61 0) (S 63 0) (S 64 0) (S 65 0) (S 67 0) (S 66) (S 68) (S 69) (S 70) (S 72) (xs (v4 + 1).toNatClampNeg) (xs (v4 + 2).toNatClampNeg) (xs (v4 + 3).toNatClampNeg) q' hB) gL_law_X7_tie rfl rfl rfl yd_X7_tie ⟨Nat.le_of_ble_eq_true rfl, Nat.le_of_ble_eq_true rfl⟩ [57, 59, 60, 61, 62, 64] rfl (by decide) 0 rfl rfl (wLaw c X W R B K Q T TB TK TQ Y m0 M o (up (up (up (up (up (up (up (up (up (up (up S 0 (fun _ => u.2.1)) 22 u.2.2.1) 31 (fun _ => u.2.2.2.1)) 27 u.2.2.2.2.1) 28 u.2.2.2.2.2.1) 29 u.2.2.2.2.2.2.1) 30 u.2.2.2.2.2.2.2) 60 (fun _ => q'.2.1)) 69 q'.2.2.1) 70 q'.2.2.2.1) 72 q'.2.2.2.2) (vp_updL f 0 u.1.toInt64)) [(false, 0), (false, 1), (false, 2), (false, 3), (false, 4), (false, 5), (false, 6), (false, 7), (false, 8), (false, 9), (false, 10), (false, 11), (false, 12), (false, 13), (false, 14), (false, 15), (false, 16), (false, 17), (false, 18), (false, 19), (false, 20), (false, 21), (false, 22), (false, 23), (false, 24), (false, 25), (false, 26), (false, 27), (false, 28), (false, 29), (false, 30), (false, 31), (false, 32), (false, 33), (false, 34), (false, 35), (false, 36), (false, 37), (false, 38), (false, 39), (false, 40), (false, 41), (false, 42), (false, 43), (false, 44), (false, 45), (false, 46), (false, 47), (false, 48), (false, 49), (false, 50), (false, 51), (false, 52), (false, 53), (false, 54), (false, 55), (false, 56), (true, 0), (false, 58), (true, 1), (true, 2), (true, 3), (true, 4), (false, 63), (true, 5), (false, 65), (false, 66), (false, 67), (false, 68), (false, 69), (false, 70)] rfl (by decide) rfl rfl [] rfl (Nat.le_of_ble_eq_true rfl) ⟨show cells + 1 + 0 ≤ 601024 by omega, show slots + 6 + 0 ≤ 7293034 by omega⟩ dL_law_560 563 (cells + 1 + 0) (slots + 6 + 0) rfl ⟨rfl, rfl⟩ ?_
    refine vv_istore C [(6, .int q'.1), (5, .int (sel (Sum.inr u : Nat ⊕ (Int32 × Int32 × (Nat → Int32) × Int32 × (Nat → Int32) × (Nat → Int32) × (Nat → Int32) × (Nat → Int32))) kcL_tie (fun _ => 0))), (0, .ref b), (1, .ref (X 0)), (2, .ref m0), (3, .ref o), (4, .int v4)] dL_law_563 (by decide) rfl 565 rfl ?_
    refine vv_aload_n C dL_law_565 rfl 4 rfl 566 rfl ?_
    refine vv_callVi C (fun l => mt_X7_thrown l D c (mA m0 M) ((up (up (up (up (up (up (up (up (up (up (up S 0 (fun _ => u.2.1)) 22 u.2.2.1) 31 (fun _ => u.2.2.2.1)) 27 u.2.2.2.2.1) 28 u.2.2.2.2.2.1) 29 u.2.2.2.2.2.2.1) 30 u.2.2.2.2.2.2.2) 60 (fun _ => q'.2.1)) 69 q'.2.2.1) 70 q'.2.2.2.1) 72 q'.2.2.2.2) 60 0) ((up (up (up (up (up (up (up (up (up (up (up S 0 (fun _ => u.2.1)) 22 u.2.2.1) 31 (fun _ => u.2.2.2.1)) 27 u.2.2.2.2.1) 28 u.2.2.2.2.2.1) 29 u.2.2.2.2.2.2.1) 30 u.2.2.2.2.2.2.2) 60 (fun _ => q'.2.1)) 69 q'.2.2.1) 70 q'.2.2.2.1) 72 q'.2.2.2.2) 61 0) ((up (up (up (up (up (up (up (up (up (up (up S 0 (fun _ => u.2.1)) 22 u.2.2.1) 31 (fun _ => u.2.2.2.1)) 27 u.2.2.2.2.1) 28 u.2.2.2.2.2.1) 29 u.2.2.2.2.2.2.1) 30 u.2.2.2.2.2.2.2) 60 (fun _ => q'.2.1)) 69 q'.2.2.1) 70 q'.2.2.2.1) 72 q'.2.2.2.2) 63 0) ((up (up (up (up (up (up (up (up (up (up (up S 0 (fun _ => u.2.1)) 22 u.2.2.1) 31 (fun _ => u.2.2.2.1)) 27 u.2.2.2.2.1) 28 u.2.2.2.2.2.1) 29 u.2.2.2.2.2.2.1) 30 u.2.2.2.2.2.2.2) 60 (fun _ => q'.2.1)) 69 q'.2.2.1) 70 q'.2.2.2.1) 72 q'.2.2.2.2) 64 0) ((up (up (up (up (up (up (up (up (up (up (up S 0 (fun _ => u.2.1)) 22 u.2.2.1) 31 (fun _ => u.2.2.2.1)) 27 u.2.2.2.2.1) 28 u.2.2.2.2.2.1) 29 u.2.2.2.2.2.2.1) 30 u.2.2.2.2.2.2.2) 60 (fun _ => q'.2.1)) 69 q'.2.2.1) 70 q'.2.2.2.1) 72 q'.2.2.2.2) 65 0) ((up (up (up (up (up (up (up (up (up (up (up S 0 (fun _ => u.2.1)) 22 u.2.2.1) 31 (fun _ => u.2.2.2.1)) 27 u.2.2.2.2.1) 28 u.2.2.2.2.2.1) 29 u.2.2.2.2.2.2.1) 30 u.2.2.2.2.2.2.2) 60 (fun _ => q'.2.1)) 69 q'.2.2.1) 70 q'.2.2.2.1) 72 q'.2.2.2.2) 67 0) q'.2.1 rfl) gL_law_X7_thrown rfl rfl rfl yd_X7_thrown ⟨Nat.le_of_ble_eq_true rfl, Nat.le_of_ble_eq_true rfl⟩ [57] rfl (by decide) 0 rfl rfl (wLaw c X W R B K Q T TB TK TQ Y m0 M o (up (up (up (up (up (up (up (up (up (up (up S 0 (fun _ => u.2.1)) 22 u.2.2.1) 31 (fun _ => u.2.2.2.1)) 27 u.2.2.2.2.1) 28 u.2.2.2.2.2.1) 29 u.2.2.2.2.2.2.1) 30 u.2.2.2.2.2.2.2) 60 (fun _ => q'.2.1)) 69 q'.2.2.1) 70 q'.2.2.2.1) 72 q'.2.2.2.2) (vp_updL f 0 u.1.toInt64)) [(false, 0), (false, 1), (false, 2), (false, 3), (false, 4), (false, 5), (false, 6), (false, 7), (false, 8), (false, 9), (false, 10), (false, 11), (false, 12), (false, 13), (false, 14), (false, 15), (false, 16), (false, 17), (false, 18), (false, 19), (false, 20), (false, 21), (false, 22), (false, 23), (false, 24), (false, 25), (false, 26), (false, 27), (false, 28), (false, 29), (false, 30), (false, 31), (false, 32), (false, 33), (false, 34), (false, 35), (false, 36), (false, 37), (false, 38), (false, 39), (false, 40), (false, 41), (false, 42), (false, 43), (false, 44), (false, 45), (false, 46), (false, 47), (false, 48), (false, 49), (false, 50), (false, 51), (false, 52), (false, 53), (false, 54), (false, 55), (false, 56), (true, 0), (false, 58), (false, 59), (false, 60), (false, 61), (false, 62), (false, 63), (false, 64), (false, 65), (false, 66), (false, 67), (false, 68), (false, 69), (false, 70)] rfl (by decide) rfl rfl [] rfl (Nat.le_of_ble_eq_true rfl) ⟨show cells + 1 + 0 ≤ 601024 by omega, show slots + 6 + 0 ≤ 7293034 by omega⟩ dL_law_566 569 (cells + 1 + 0) (slots + 6 + 0) rfl ⟨rfl, rfl⟩ ?_
    refine vv_iload C dL_law_569 1 rfl 571 rfl ?_
    refine vv_icmp_eq C 576 574 dL_law_571 (by decide) rfl (fun _ => ?_) (fun hc => absurd hthr hc)
    refine vv_iload C dL_law_576 1 rfl 578 rfl ?_
    refine vv_if_ne C 593 581 dL_law_578 (by decide) rfl (fun hc => absurd rfl hc) (fun _ => ?_)
    refine vv_aload_n C dL_law_581 rfl 5 rfl 582 rfl ?_
    refine vv_iconst C (v := 0) dL_law_582 (by decide) 583 rfl ?_
    refine vv_lald C (q0 := 70) rfl (inB_t (by decide)) dL_law_583 584 rfl ?_
    refine vv_iload C dL_law_584 0 rfl 586 rfl ?_
    refine vv_i2l C dL_law_586 587 rfl ?_
    refine vv_lcmp C dL_law_587 588 rfl ?_
    refine vv_if_eq C 593 591 dL_law_588 (by decide) rfl (fun _ => ?_) (fun hc => absurd (by rw [hret]; exact lcmp_self _) hc)
    refine vv_goto C 1623 dL_law_593 (by decide) ?_
    refine vv_lv [2, 3, 4, 5, 6] [(0, .ref b), (1, .ref (X 0)), (2, .ref m0), (3, .ref o), (4, .int v4)] rfl ?_
    refine vv_cs (k := cells + (1 + 0)) (n := slots + (6 + 0)) (by omega) (by omega) ?_
    exact K1 _ _ _ _ _ hRel ⟨by omega, by omega, Or.inl (by omega)⟩
set_option maxHeartbeats 4000000 in
set_option maxRecDepth 100000 in
theorem law_cut {g : CtxT} {D : va_G} {c : Nat → ClassId} {b L : Nat} {xs : Nat → Int32} (C : CX g D c cL_law RL wsL_law 9 room_1) (XS : SXc b L xs g) (XW : WXL g) (X W R B K Q T TB TK TQ Y : Nat → Nat) (m0 : Nat) (M : Nat → Nat) (o : Nat) (S : Nat → Nat → Int32) (f : Nat → Int64) (v4 : Int32) (hin : ∀ j : Nat, j < 8 → vp_in (v4 + nI j) L) (hR : Rel S) (cells slots : Nat) (hroom : cells + 67 ≤ 601024 ∧ slots + 14262 ≤ 7293034)
    (K1 : ∀ (S' : Nat → Nat → Int32) (f' : Nat → Int64) (M' : Nat → Nat) (a b' : Nat), Rel S' → Cost S S' a b' → VV g D 9 (cells + a) (slots + b') (wLaw c X W R B K Q T TB TK TQ Y m0 M' o S' f') [(0, .ref b), (1, .ref (X 0)), (2, .ref m0), (3, .ref o), (4, .int v4)] 1623 []) : VV g D 9 cells slots (wLaw c X W R B K Q T TB TK TQ Y m0 M o S f) [(0, .ref b), (1, .ref (X 0)), (2, .ref m0), (3, .ref o), (4, .int v4)] 596 [] := by
  obtain ⟨q, q', hA, hB, hthr, hexc, hval⟩ := sim_cut S (xs (v4 + 1).toNatClampNeg) (xs (v4 + 2).toNatClampNeg) hR
  rcases q with k | u
  · obtain ⟨hk, hRel⟩ := hexc k rfl
    have hk0 : ¬ (sel (Sum.inl k : Nat ⊕ (Int32 × Int32 × (Nat → Int32) × Int32 × (Nat → Int32) × (Nat → Int32) × (Nat → Int32) × (Nat → Int32))) kcL_cut (fun _ => 0)) = 0 := by
      rcases (show k = 3 ∨ k = 2 by simpa using hk) with rfl | rfl <;> decide
    refine vv_aload_n C dL_law_596 rfl 1 rfl 597 rfl ?_
    refine vv_aload_n C dL_law_597 rfl 0 rfl 598 rfl ?_
    refine vv_iload C dL_law_598 4 rfl 600 rfl ?_
    refine vv_iconst C (v := 1) dL_law_600 (by decide) 601 rfl ?_
    refine vv_iadd C dL_law_601 602 rfl ?_
    refine vv_sld C XS (hin 1 (by decide)) dL_law_602 603 rfl ?_
    refine vv_aload_n C dL_law_603 rfl 0 rfl 604 rfl ?_
    refine vv_iload C dL_law_604 4 rfl 606 rfl ?_
    refine vv_iconst C (v := 2) dL_law_606 (by decide) 607 rfl ?_
    refine vv_iadd C dL_law_607 608 rfl ?_
    refine vv_sld C XS (hin 2 (by decide)) dL_law_608 609 rfl ?_
    refine vv_aload_n C dL_law_609 rfl 3 rfl 610 rfl ?_
    refine vv_callW C XW (fun l hfl => mt_L_cut l hfl D c X W R B K Q T Y (S 0 0) (S 10 0) (S 11 0) (S 23 0) (S 19) (S 22) (S 31 0) (S 27) (S 28) (S 29) (S 30) (xs (v4 + 1).toNatClampNeg) (xs (v4 + 2).toNatClampNeg) o f (Sum.inl k) hA (fun k2 e2 => by cases e2; exact hk)) gL_law_L_cut rfl rfl rfl yd_L_cut ⟨Nat.le_of_ble_eq_true rfl, Nat.le_of_ble_eq_true rfl⟩ [0, 6, 9, 17, 20, 24, 25, 26, 27, 28, 70] rfl (by decide) (wLaw c X W R B K Q T TB TK TQ Y m0 M o S f) [(true, 0), (false, 1), (false, 2), (false, 3), (false, 4), (false, 5), (true, 1), (false, 7), (false, 8), (true, 2), (false, 10), (false, 11), (false, 12), (false, 13), (false, 14), (false, 15), (false, 16), (true, 3), (false, 18), (false, 19), (true, 4), (false, 21), (false, 22), (false, 23), (true, 5), (true, 6), (true, 7), (true, 8), (true, 9), (false, 29), (false, 30), (false, 31), (false, 32), (false, 33), (false, 34), (false, 35), (false, 36), (false, 37), (false, 38), (false, 39), (false, 40), (false, 41), (false, 42), (false, 43), (false, 44), (false, 45), (false, 46), (false, 47), (false, 48), (false, 49), (false, 50), (false, 51), (false, 52), (false, 53), (false, 54), (false, 55), (false, 56), (false, 57), (false, 58), (false, 59), (false, 60), (false, 61), (false, 62), (false, 63), (false, 64), (false, 65), (false, 66), (false, 67), (false, 68), (false, 69), (true, 10)] rfl (by decide) rfl rfl [] rfl (Nat.le_of_ble_eq_true rfl) ⟨show cells + 1 ≤ 601024 by omega, show slots + 6 ≤ 7293034 by omega⟩ dL_law_610 613 (cells + 1) (slots + 6) rfl ⟨rfl, rfl⟩ ?_
    refine vv_istore C [(5, .int (sel (Sum.inl k : Nat ⊕ (Int32 × Int32 × (Nat → Int32) × Int32 × (Nat → Int32) × (Nat → Int32) × (Nat → Int32) × (Nat → Int32))) kcL_cut (fun _ => 0))), (0, .ref b), (1, .ref (X 0)), (2, .ref m0), (3, .ref o), (4, .int v4)] dL_law_613 (by decide) rfl 615 rfl ?_
    refine vv_aload_n C dL_law_615 rfl 3 rfl 616 rfl ?_
    refine vv_aload_n C dL_law_616 rfl 1 rfl 617 rfl ?_
    refine vv_iload C dL_law_617 5 rfl 619 rfl ?_
    refine vv_iconst C (v := 1) dL_law_619 (by decide) 620 rfl ?_
    refine vv_iadd C dL_law_620 621 rfl ?_
    refine vv_sld C XS (hin 1 (by decide)) dL_law_621 622 rfl ?_
    refine vv_aload_n C dL_law_622 rfl 1 rfl 623 rfl ?_
    refine vv_iload C dL_law_623 5 rfl 625 rfl ?_
    refine vv_iconst C (v := 2) dL_law_625 (by decide) 626 rfl ?_
    refine vv_iadd C dL_law_626 627 rfl ?_
    refine vv_sld C XS (hin 2 (by decide)) dL_law_627 628 rfl ?_
    refine vv_callVi C (fun l => mt_X7_cut l D c (mA m0 M) (S 60 0) (S 61 0) (S 63 0) (S 64 0) (S 65 0) (S 67 0) (S 69) (S 70) (S 72) (xs (v4 + 1).toNatClampNeg) (xs (v4 + 2).toNatClampNeg) q' hB) gL_law_X7_cut rfl rfl rfl yd_X7_cut ⟨Nat.le_of_ble_eq_true rfl, Nat.le_of_ble_eq_true rfl⟩ [57, 61, 62, 64] rfl (by decide) 0 rfl rfl (wLaw c X W R B K Q T TB TK TQ Y m0 M o (up (up (up (up S 60 (fun _ => q'.2.1)) 69 q'.2.2.1) 70 q'.2.2.2.1) 72 q'.2.2.2.2) f) [(false, 0), (false, 1), (false, 2), (false, 3), (false, 4), (false, 5), (false, 6), (false, 7), (false, 8), (false, 9), (false, 10), (false, 11), (false, 12), (false, 13), (false, 14), (false, 15), (false, 16), (false, 17), (false, 18), (false, 19), (false, 20), (false, 21), (false, 22), (false, 23), (false, 24), (false, 25), (false, 26), (false, 27), (false, 28), (false, 29), (false, 30), (false, 31), (false, 32), (false, 33), (false, 34), (false, 35), (false, 36), (false, 37), (false, 38), (false, 39), (false, 40), (false, 41), (false, 42), (false, 43), (false, 44), (false, 45), (false, 46), (false, 47), (false, 48), (false, 49), (false, 50), (false, 51), (false, 52), (false, 53), (false, 54), (false, 55), (false, 56), (true, 0), (false, 58), (false, 59), (false, 60), (true, 1), (true, 2), (false, 63), (true, 3), (false, 65), (false, 66), (false, 67), (false, 68), (false, 69), (false, 70)] rfl (by decide) rfl rfl [] rfl (Nat.le_of_ble_eq_true rfl) ⟨show cells + 1 + 0 ≤ 601024 by omega, show slots + 6 + 0 ≤ 7293034 by omega⟩ dL_law_628 631 (cells + 1 + 0) (slots + 6 + 0) rfl ⟨rfl, rfl⟩ ?_
    refine vv_istore C [(6, .int q'.1), (5, .int (sel (Sum.inl k : Nat ⊕ (Int32 × Int32 × (Nat → Int32) × Int32 × (Nat → Int32) × (Nat → Int32) × (Nat → Int32) × (Nat → Int32))) kcL_cut (fun _ => 0))), (0, .ref b), (1, .ref (X 0)), (2, .ref m0), (3, .ref o), (4, .int v4)] dL_law_631 (by decide) rfl 633 rfl ?_
    refine vv_aload_n C dL_law_633 rfl 4 rfl 634 rfl ?_
    refine vv_callVi C (fun l => mt_X7_thrown l D c (mA m0 M) ((up (up (up (up S 60 (fun _ => q'.2.1)) 69 q'.2.2.1) 70 q'.2.2.2.1) 72 q'.2.2.2.2) 60 0) ((up (up (up (up S 60 (fun _ => q'.2.1)) 69 q'.2.2.1) 70 q'.2.2.2.1) 72 q'.2.2.2.2) 61 0) ((up (up (up (up S 60 (fun _ => q'.2.1)) 69 q'.2.2.1) 70 q'.2.2.2.1) 72 q'.2.2.2.2) 63 0) ((up (up (up (up S 60 (fun _ => q'.2.1)) 69 q'.2.2.1) 70 q'.2.2.2.1) 72 q'.2.2.2.2) 64 0) ((up (up (up (up S 60 (fun _ => q'.2.1)) 69 q'.2.2.1) 70 q'.2.2.2.1) 72 q'.2.2.2.2) 65 0) ((up (up (up (up S 60 (fun _ => q'.2.1)) 69 q'.2.2.1) 70 q'.2.2.2.1) 72 q'.2.2.2.2) 67 0) q'.2.1 rfl) gL_law_X7_thrown rfl rfl rfl yd_X7_thrown ⟨Nat.le_of_ble_eq_true rfl, Nat.le_of_ble_eq_true rfl⟩ [57] rfl (by decide) 0 rfl rfl (wLaw c X W R B K Q T TB TK TQ Y m0 M o (up (up (up (up S 60 (fun _ => q'.2.1)) 69 q'.2.2.1) 70 q'.2.2.2.1) 72 q'.2.2.2.2) f) [(false, 0), (false, 1), (false, 2), (false, 3), (false, 4), (false, 5), (false, 6), (false, 7), (false, 8), (false, 9), (false, 10), (false, 11), (false, 12), (false, 13), (false, 14), (false, 15), (false, 16), (false, 17), (false, 18), (false, 19), (false, 20), (false, 21), (false, 22), (false, 23), (false, 24), (false, 25), (false, 26), (false, 27), (false, 28), (false, 29), (false, 30), (false, 31), (false, 32), (false, 33), (false, 34), (false, 35), (false, 36), (false, 37), (false, 38), (false, 39), (false, 40), (false, 41), (false, 42), (false, 43), (false, 44), (false, 45), (false, 46), (false, 47), (false, 48), (false, 49), (false, 50), (false, 51), (false, 52), (false, 53), (false, 54), (false, 55), (false, 56), (true, 0), (false, 58), (false, 59), (false, 60), (false, 61), (false, 62), (false, 63), (false, 64), (false, 65), (false, 66), (false, 67), (false, 68), (false, 69), (false, 70)] rfl (by decide) rfl rfl [] rfl (Nat.le_of_ble_eq_true rfl) ⟨show cells + 1 + 0 ≤ 601024 by omega, show slots + 6 + 0 ≤ 7293034 by omega⟩ dL_law_634 637 (cells + 1 + 0) (slots + 6 + 0) rfl ⟨rfl, rfl⟩ ?_
    refine vv_iload C dL_law_637 1 rfl 639 rfl ?_
    refine vv_icmp_eq C 644 642 dL_law_639 (by decide) rfl (fun _ => ?_) (fun hc => absurd hthr hc)
    refine vv_iload C dL_law_644 1 rfl 646 rfl ?_
    refine vv_if_ne C 661 649 dL_law_646 (by decide) rfl (fun _ => ?_) (fun hc => absurd hc hk0)
    refine vv_goto C 1623 dL_law_661 (by decide) ?_
    refine vv_lv [2, 3, 4, 5, 6] [(0, .ref b), (1, .ref (X 0)), (2, .ref m0), (3, .ref o), (4, .int v4)] rfl ?_
    refine vv_cs (k := cells + (1 + 0)) (n := slots + (6 + 0)) (by omega) (by omega) ?_
    exact K1 _ _ _ _ _ hRel ⟨by omega, by omega, Or.inl (by omega)⟩
  · obtain ⟨hret, hRel⟩ := hval u rfl
    refine vv_aload_n C dL_law_596 rfl 1 rfl 597 rfl ?_
    refine vv_aload_n C dL_law_597 rfl 0 rfl 598 rfl ?_
    refine vv_iload C dL_law_598 4 rfl 600 rfl ?_
    refine vv_iconst C (v := 1) dL_law_600 (by decide) 601 rfl ?_
    refine vv_iadd C dL_law_601 602 rfl ?_
    refine vv_sld C XS (hin 1 (by decide)) dL_law_602 603 rfl ?_
    refine vv_aload_n C dL_law_603 rfl 0 rfl 604 rfl ?_
    refine vv_iload C dL_law_604 4 rfl 606 rfl ?_
    refine vv_iconst C (v := 2) dL_law_606 (by decide) 607 rfl ?_
    refine vv_iadd C dL_law_607 608 rfl ?_
    refine vv_sld C XS (hin 2 (by decide)) dL_law_608 609 rfl ?_
    refine vv_aload_n C dL_law_609 rfl 3 rfl 610 rfl ?_
    refine vv_callW C XW (fun l hfl => mt_L_cut l hfl D c X W R B K Q T Y (S 0 0) (S 10 0) (S 11 0) (S 23 0) (S 19) (S 22) (S 31 0) (S 27) (S 28) (S 29) (S 30) (xs (v4 + 1).toNatClampNeg) (xs (v4 + 2).toNatClampNeg) o f (Sum.inr u) hA (fun k2 e2 => nomatch e2)) gL_law_L_cut rfl rfl rfl yd_L_cut ⟨Nat.le_of_ble_eq_true rfl, Nat.le_of_ble_eq_true rfl⟩ [0, 6, 9, 17, 20, 24, 25, 26, 27, 28, 70] rfl (by decide) (wLaw c X W R B K Q T TB TK TQ Y m0 M o (up (up (up (up (up (up (up S 0 (fun _ => u.2.1)) 22 u.2.2.1) 31 (fun _ => u.2.2.2.1)) 27 u.2.2.2.2.1) 28 u.2.2.2.2.2.1) 29 u.2.2.2.2.2.2.1) 30 u.2.2.2.2.2.2.2) (vp_updL f 0 u.1.toInt64)) [(true, 0), (false, 1), (false, 2), (false, 3), (false, 4), (false, 5), (true, 1), (false, 7), (false, 8), (true, 2), (false, 10), (false, 11), (false, 12), (false, 13), (false, 14), (false, 15), (false, 16), (true, 3), (false, 18), (false, 19), (true, 4), (false, 21), (false, 22), (false, 23), (true, 5), (true, 6), (true, 7), (true, 8), (true, 9), (false, 29), (false, 30), (false, 31), (false, 32), (false, 33), (false, 34), (false, 35), (false, 36), (false, 37), (false, 38), (false, 39), (false, 40), (false, 41), (false, 42), (false, 43), (false, 44), (false, 45), (false, 46), (false, 47), (false, 48), (false, 49), (false, 50), (false, 51), (false, 52), (false, 53), (false, 54), (false, 55), (false, 56), (false, 57), (false, 58), (false, 59), (false, 60), (false, 61), (false, 62), (false, 63), (false, 64), (false, 65), (false, 66), (false, 67), (false, 68), (false, 69), (true, 10)] rfl (by decide) rfl rfl [] rfl (Nat.le_of_ble_eq_true rfl) ⟨show cells + 1 ≤ 601024 by omega, show slots + 6 ≤ 7293034 by omega⟩ dL_law_610 613 (cells + 1) (slots + 6) rfl ⟨rfl, rfl⟩ ?_
    refine vv_istore C [(5, .int (sel (Sum.inr u : Nat ⊕ (Int32 × Int32 × (Nat → Int32) × Int32 × (Nat → Int32) × (Nat → Int32) × (Nat → Int32) × (Nat → Int32))) kcL_cut (fun _ => 0))), (0, .ref b), (1, .ref (X 0)), (2, .ref m0), (3, .ref o), (4, .int v4)] dL_law_613 (by decide) rfl 615 rfl ?_
    refine vv_aload_n C dL_law_615 rfl 3 rfl 616 rfl ?_
    refine vv_aload_n C dL_law_616 rfl 1 rfl 617 rfl ?_
    refine vv_iload C dL_law_617 5 rfl 619 rfl ?_
    refine vv_iconst C (v := 1) dL_law_619 (by decide) 620 rfl ?_
    refine vv_iadd C dL_law_620 621 rfl ?_
    refine vv_sld C XS (hin 1 (by decide)) dL_law_621 622 rfl ?_
    refine vv_aload_n C dL_law_622 rfl 1 rfl 623 rfl ?_
    refine vv_iload C dL_law_623 5 rfl 625 rfl ?_
    refine vv_iconst C (v := 2) dL_law_625 (by decide) 626 rfl ?_
    refine vv_iadd C dL_law_626 627 rfl ?_
    refine vv_sld C XS (hin 2 (by decide)) dL_law_627 628 rfl ?_
    refine vv_callVi C (fun l => mt_X7_cut l D c (mA m0 M) (S 60 0) (S 61 0) (S 63 0) (S 64 0) (S 65 0) (S 67 0) (S 69) (S 70) (S 72) (xs (v4 + 1).toNatClampNeg) (xs (v4 + 2).toNatClampNeg) q' hB) gL_law_X7_cut rfl rfl rfl yd_X7_cut ⟨Nat.le_of_ble_eq_true rfl, Nat.le_of_ble_eq_true rfl⟩ [57, 61, 62, 64] rfl (by decide) 0 rfl rfl (wLaw c X W R B K Q T TB TK TQ Y m0 M o (up (up (up (up (up (up (up (up (up (up (up S 0 (fun _ => u.2.1)) 22 u.2.2.1) 31 (fun _ => u.2.2.2.1)) 27 u.2.2.2.2.1) 28 u.2.2.2.2.2.1) 29 u.2.2.2.2.2.2.1) 30 u.2.2.2.2.2.2.2) 60 (fun _ => q'.2.1)) 69 q'.2.2.1) 70 q'.2.2.2.1) 72 q'.2.2.2.2) (vp_updL f 0 u.1.toInt64)) [(false, 0), (false, 1), (false, 2), (false, 3), (false, 4), (false, 5), (false, 6), (false, 7), (false, 8), (false, 9), (false, 10), (false, 11), (false, 12), (false, 13), (false, 14), (false, 15), (false, 16), (false, 17), (false, 18), (false, 19), (false, 20), (false, 21), (false, 22), (false, 23), (false, 24), (false, 25), (false, 26), (false, 27), (false, 28), (false, 29), (false, 30), (false, 31), (false, 32), (false, 33), (false, 34), (false, 35), (false, 36), (false, 37), (false, 38), (false, 39), (false, 40), (false, 41), (false, 42), (false, 43), (false, 44), (false, 45), (false, 46), (false, 47), (false, 48), (false, 49), (false, 50), (false, 51), (false, 52), (false, 53), (false, 54), (false, 55), (false, 56), (true, 0), (false, 58), (false, 59), (false, 60), (true, 1), (true, 2), (false, 63), (true, 3), (false, 65), (false, 66), (false, 67), (false, 68), (false, 69), (false, 70)] rfl (by decide) rfl rfl [] rfl (Nat.le_of_ble_eq_true rfl) ⟨show cells + 1 + 0 ≤ 601024 by omega, show slots + 6 + 0 ≤ 7293034 by omega⟩ dL_law_628 631 (cells + 1 + 0) (slots + 6 + 0) rfl ⟨rfl, rfl⟩ ?_
    refine vv_istore C [(6, .int q'.1), (5, .int (sel (Sum.inr u : Nat ⊕ (Int32 × Int32 × (Nat → Int32) × Int32 × (Nat → Int32) × (Nat → Int32) × (Nat → Int32) × (Nat → Int32))) kcL_cut (fun _ => 0))), (0, .ref b), (1, .ref (X 0)), (2, .ref m0), (3, .ref o), (4, .int v4)] dL_law_631 (by decide) rfl 633 rfl ?_
    refine vv_aload_n C dL_law_633 rfl 4 rfl 634 rfl ?_
    refine vv_callVi C (fun l => mt_X7_thrown l D c (mA m0 M) ((up (up (up (up (up (up (up (up (up (up (up S 0 (fun _ => u.2.1)) 22 u.2.2.1) 31 (fun _ => u.2.2.2.1)) 27 u.2.2.2.2.1) 28 u.2.2.2.2.2.1) 29 u.2.2.2.2.2.2.1) 30 u.2.2.2.2.2.2.2) 60 (fun _ => q'.2.1)) 69 q'.2.2.1) 70 q'.2.2.2.1) 72 q'.2.2.2.2) 60 0) ((up (up (up (up (up (up (up (up (up (up (up S 0 (fun _ => u.2.1)) 22 u.2.2.1) 31 (fun _ => u.2.2.2.1)) 27 u.2.2.2.2.1) 28 u.2.2.2.2.2.1) 29 u.2.2.2.2.2.2.1) 30 u.2.2.2.2.2.2.2) 60 (fun _ => q'.2.1)) 69 q'.2.2.1) 70 q'.2.2.2.1) 72 q'.2.2.2.2) 61 0) ((up (up (up (up (up (up (up (up (up (up (up S 0 (fun _ => u.2.1)) 22 u.2.2.1) 31 (fun _ => u.2.2.2.1)) 27 u.2.2.2.2.1) 28 u.2.2.2.2.2.1) 29 u.2.2.2.2.2.2.1) 30 u.2.2.2.2.2.2.2) 60 (fun _ => q'.2.1)) 69 q'.2.2.1) 70 q'.2.2.2.1) 72 q'.2.2.2.2) 63 0) ((up (up (up (up (up (up (up (up (up (up (up S 0 (fun _ => u.2.1)) 22 u.2.2.1) 31 (fun _ => u.2.2.2.1)) 27 u.2.2.2.2.1) 28 u.2.2.2.2.2.1) 29 u.2.2.2.2.2.2.1) 30 u.2.2.2.2.2.2.2) 60 (fun _ => q'.2.1)) 69 q'.2.2.1) 70 q'.2.2.2.1) 72 q'.2.2.2.2) 64 0) ((up (up (up (up (up (up (up (up (up (up (up S 0 (fun _ => u.2.1)) 22 u.2.2.1) 31 (fun _ => u.2.2.2.1)) 27 u.2.2.2.2.1) 28 u.2.2.2.2.2.1) 29 u.2.2.2.2.2.2.1) 30 u.2.2.2.2.2.2.2) 60 (fun _ => q'.2.1)) 69 q'.2.2.1) 70 q'.2.2.2.1) 72 q'.2.2.2.2) 65 0) ((up (up (up (up (up (up (up (up (up (up (up S 0 (fun _ => u.2.1)) 22 u.2.2.1) 31 (fun _ => u.2.2.2.1)) 27 u.2.2.2.2.1) 28 u.2.2.2.2.2.1) 29 u.2.2.2.2.2.2.1) 30 u.2.2.2.2.2.2.2) 60 (fun _ => q'.2.1)) 69 q'.2.2.1) 70 q'.2.2.2.1) 72 q'.2.2.2.2) 67 0) q'.2.1 rfl) gL_law_X7_thrown rfl rfl rfl yd_X7_thrown ⟨Nat.le_of_ble_eq_true rfl, Nat.le_of_ble_eq_true rfl⟩ [57] rfl (by decide) 0 rfl rfl (wLaw c X W R B K Q T TB TK TQ Y m0 M o (up (up (up (up (up (up (up (up (up (up (up S 0 (fun _ => u.2.1)) 22 u.2.2.1) 31 (fun _ => u.2.2.2.1)) 27 u.2.2.2.2.1) 28 u.2.2.2.2.2.1) 29 u.2.2.2.2.2.2.1) 30 u.2.2.2.2.2.2.2) 60 (fun _ => q'.2.1)) 69 q'.2.2.1) 70 q'.2.2.2.1) 72 q'.2.2.2.2) (vp_updL f 0 u.1.toInt64)) [(false, 0), (false, 1), (false, 2), (false, 3), (false, 4), (false, 5), (false, 6), (false, 7), (false, 8), (false, 9), (false, 10), (false, 11), (false, 12), (false, 13), (false, 14), (false, 15), (false, 16), (false, 17), (false, 18), (false, 19), (false, 20), (false, 21), (false, 22), (false, 23), (false, 24), (false, 25), (false, 26), (false, 27), (false, 28), (false, 29), (false, 30), (false, 31), (false, 32), (false, 33), (false, 34), (false, 35), (false, 36), (false, 37), (false, 38), (false, 39), (false, 40), (false, 41), (false, 42), (false, 43), (false, 44), (false, 45), (false, 46), (false, 47), (false, 48), (false, 49), (false, 50), (false, 51), (false, 52), (false, 53), (false, 54), (false, 55), (false, 56), (true, 0), (false, 58), (false, 59), (false, 60), (false, 61), (false, 62), (false, 63), (false, 64), (false, 65), (false, 66), (false, 67), (false, 68), (false, 69), (false, 70)] rfl (by decide) rfl rfl [] rfl (Nat.le_of_ble_eq_true rfl) ⟨show cells + 1 + 0 ≤ 601024 by omega, show slots + 6 + 0 ≤ 7293034 by omega⟩ dL_law_634 637 (cells + 1 + 0) (slots + 6 + 0) rfl ⟨rfl, rfl⟩ ?_
    refine vv_iload C dL_law_637 1 rfl 639 rfl ?_
    refine vv_icmp_eq C 644 642 dL_law_639 (by decide) rfl (fun _ => ?_) (fun hc => absurd hthr hc)
    refine vv_iload C dL_law_644 1 rfl 646 rfl ?_
    refine vv_if_ne C 661 649 dL_law_646 (by decide) rfl (fun hc => absurd rfl hc) (fun _ => ?_)
    refine vv_aload_n C dL_law_649 rfl 5 rfl 650 rfl ?_
    refine vv_iconst C (v := 0) dL_law_650 (by decide) 651 rfl ?_
    refine vv_lald C (q0 := 70) rfl (inB_t (by decide)) dL_law_651 652 rfl ?_
    refine vv_iload C dL_law_652 0 rfl 654 rfl ?_
    refine vv_i2l C dL_law_654 655 rfl ?_
    refine vv_lcmp C dL_law_655 656 rfl ?_
    refine vv_if_eq C 661 659 dL_law_656 (by decide) rfl (fun _ => ?_) (fun hc => absurd (by rw [hret]; exact lcmp_self _) hc)
    refine vv_goto C 1623 dL_law_661 (by decide) ?_
    refine vv_lv [2, 3, 4, 5, 6] [(0, .ref b), (1, .ref (X 0)), (2, .ref m0), (3, .ref o), (4, .int v4)] rfl ?_
    refine vv_cs (k := cells + (1 + 0)) (n := slots + (6 + 0)) (by omega) (by omega) ?_
    exact K1 _ _ _ _ _ hRel ⟨by omega, by omega, Or.inl (by omega)⟩
set_option maxHeartbeats 4000000 in
set_option maxRecDepth 100000 in
theorem law_load {g : CtxT} {D : va_G} {c : Nat → ClassId} {b L : Nat} {xs : Nat → Int32} (C : CX g D c cL_law RL wsL_law 9 room_1) (XS : SXc b L xs g) (XW : WXL g) (X W R B K Q T TB TK TQ Y : Nat → Nat) (m0 : Nat) (M : Nat → Nat) (o : Nat) (S : Nat → Nat → Int32) (f : Nat → Int64) (v4 : Int32) (hin : ∀ j : Nat, j < 8 → vp_in (v4 + nI j) L) (hR : Rel S) (cells slots : Nat) (hroom : cells + 67 ≤ 601024 ∧ slots + 14262 ≤ 7293034)
    (K1 : ∀ (S' : Nat → Nat → Int32) (f' : Nat → Int64) (M' : Nat → Nat) (a b' : Nat), Rel S' → Cost S S' a b' → VV g D 9 (cells + a) (slots + b') (wLaw c X W R B K Q T TB TK TQ Y m0 M' o S' f') [(0, .ref b), (1, .ref (X 0)), (2, .ref m0), (3, .ref o), (4, .int v4)] 1623 []) : VV g D 9 cells slots (wLaw c X W R B K Q T TB TK TQ Y m0 M o S f) [(0, .ref b), (1, .ref (X 0)), (2, .ref m0), (3, .ref o), (4, .int v4)] 664 [] := by
  obtain ⟨q, q', hA, hB, hthr, hexc, hval⟩ := sim_load S (xs (v4 + 1).toNatClampNeg) (xs (v4 + 2).toNatClampNeg) hR
  rcases q with k | u
  · obtain ⟨hk, hRel⟩ := hexc k rfl
    have hk0 : ¬ (sel (Sum.inl k : Nat ⊕ (Int32 × (Nat → Int32))) kcL_load (fun _ => 0)) = 0 := by
      rcases (show k = 3 ∨ k = 1 ∨ k = 2 by simpa using hk) with rfl | rfl | rfl <;> decide
    refine vv_aload_n C dL_law_664 rfl 1 rfl 665 rfl ?_
    refine vv_aload_n C dL_law_665 rfl 0 rfl 666 rfl ?_
    refine vv_iload C dL_law_666 4 rfl 668 rfl ?_
    refine vv_iconst C (v := 1) dL_law_668 (by decide) 669 rfl ?_
    refine vv_iadd C dL_law_669 670 rfl ?_
    refine vv_sld C XS (hin 1 (by decide)) dL_law_670 671 rfl ?_
    refine vv_aload_n C dL_law_671 rfl 0 rfl 672 rfl ?_
    refine vv_iload C dL_law_672 4 rfl 674 rfl ?_
    refine vv_iconst C (v := 2) dL_law_674 (by decide) 675 rfl ?_
    refine vv_iadd C dL_law_675 676 rfl ?_
    refine vv_sld C XS (hin 2 (by decide)) dL_law_676 677 rfl ?_
    refine vv_aload_n C dL_law_677 rfl 3 rfl 678 rfl ?_
    refine vv_callW C XW (fun l hfl => mt_L_load l hfl D c X W R B K Q T Y (S 0 0) (S 10 0) (S 11 0) (S 23 0) (S 17) (S 19) (xs (v4 + 1).toNatClampNeg) (xs (v4 + 2).toNatClampNeg) o f (Sum.inl k) hA (fun k2 e2 => by cases e2; exact hk)) gL_law_L_load rfl rfl rfl yd_L_load ⟨Nat.le_of_ble_eq_true rfl, Nat.le_of_ble_eq_true rfl⟩ [0, 6, 9, 15, 17, 70] rfl (by decide) (wLaw c X W R B K Q T TB TK TQ Y m0 M o S f) [(true, 0), (false, 1), (false, 2), (false, 3), (false, 4), (false, 5), (true, 1), (false, 7), (false, 8), (true, 2), (false, 10), (false, 11), (false, 12), (false, 13), (false, 14), (true, 3), (false, 16), (true, 4), (false, 18), (false, 19), (false, 20), (false, 21), (false, 22), (false, 23), (false, 24), (false, 25), (false, 26), (false, 27), (false, 28), (false, 29), (false, 30), (false, 31), (false, 32), (false, 33), (false, 34), (false, 35), (false, 36), (false, 37), (false, 38), (false, 39), (false, 40), (false, 41), (false, 42), (false, 43), (false, 44), (false, 45), (false, 46), (false, 47), (false, 48), (false, 49), (false, 50), (false, 51), (false, 52), (false, 53), (false, 54), (false, 55), (false, 56), (false, 57), (false, 58), (false, 59), (false, 60), (false, 61), (false, 62), (false, 63), (false, 64), (false, 65), (false, 66), (false, 67), (false, 68), (false, 69), (true, 5)] rfl (by decide) rfl rfl [] rfl (Nat.le_of_ble_eq_true rfl) ⟨show cells + 1 ≤ 601024 by omega, show slots + 6 ≤ 7293034 by omega⟩ dL_law_678 681 (cells + 1) (slots + 6) rfl ⟨rfl, rfl⟩ ?_
    refine vv_istore C [(5, .int (sel (Sum.inl k : Nat ⊕ (Int32 × (Nat → Int32))) kcL_load (fun _ => 0))), (0, .ref b), (1, .ref (X 0)), (2, .ref m0), (3, .ref o), (4, .int v4)] dL_law_681 (by decide) rfl 683 rfl ?_
    refine vv_aload_n C dL_law_683 rfl 3 rfl 684 rfl ?_
    refine vv_aload_n C dL_law_684 rfl 1 rfl 685 rfl ?_
    refine vv_iload C dL_law_685 5 rfl 687 rfl ?_
    refine vv_iconst C (v := 1) dL_law_687 (by decide) 688 rfl ?_
    refine vv_iadd C dL_law_688 689 rfl ?_
    refine vv_sld C XS (hin 1 (by decide)) dL_law_689 690 rfl ?_
    refine vv_aload_n C dL_law_690 rfl 1 rfl 691 rfl ?_
    refine vv_iload C dL_law_691 5 rfl 693 rfl ?_
    refine vv_iconst C (v := 2) dL_law_693 (by decide) 694 rfl ?_
    refine vv_iadd C dL_law_694 695 rfl ?_
    refine vv_sld C XS (hin 2 (by decide)) dL_law_695 696 rfl ?_
    refine vv_callVi C (fun l => mt_X7_load l D c (mA m0 M) (S 60 0) (S 61 0) (S 63 0) (S 64 0) (S 65 0) (S 67 0) (S 68) (xs (v4 + 1).toNatClampNeg) (xs (v4 + 2).toNatClampNeg) q' hB) gL_law_X7_load rfl rfl rfl yd_X7_load ⟨Nat.le_of_ble_eq_true rfl, Nat.le_of_ble_eq_true rfl⟩ [57, 60] rfl (by decide) 0 rfl rfl (wLaw c X W R B K Q T TB TK TQ Y m0 M o (up (up S 60 (fun _ => q'.2.1)) 68 q'.2.2) f) [(false, 0), (false, 1), (false, 2), (false, 3), (false, 4), (false, 5), (false, 6), (false, 7), (false, 8), (false, 9), (false, 10), (false, 11), (false, 12), (false, 13), (false, 14), (false, 15), (false, 16), (false, 17), (false, 18), (false, 19), (false, 20), (false, 21), (false, 22), (false, 23), (false, 24), (false, 25), (false, 26), (false, 27), (false, 28), (false, 29), (false, 30), (false, 31), (false, 32), (false, 33), (false, 34), (false, 35), (false, 36), (false, 37), (false, 38), (false, 39), (false, 40), (false, 41), (false, 42), (false, 43), (false, 44), (false, 45), (false, 46), (false, 47), (false, 48), (false, 49), (false, 50), (false, 51), (false, 52), (false, 53), (false, 54), (false, 55), (false, 56), (true, 0), (false, 58), (false, 59), (true, 1), (false, 61), (false, 62), (false, 63), (false, 64), (false, 65), (false, 66), (false, 67), (false, 68), (false, 69), (false, 70)] rfl (by decide) rfl rfl [] rfl (Nat.le_of_ble_eq_true rfl) ⟨show cells + 1 + 0 ≤ 601024 by omega, show slots + 6 + 0 ≤ 7293034 by omega⟩ dL_law_696 699 (cells + 1 + 0) (slots + 6 + 0) rfl ⟨rfl, rfl⟩ ?_
    refine vv_istore C [(6, .int q'.1), (5, .int (sel (Sum.inl k : Nat ⊕ (Int32 × (Nat → Int32))) kcL_load (fun _ => 0))), (0, .ref b), (1, .ref (X 0)), (2, .ref m0), (3, .ref o), (4, .int v4)] dL_law_699 (by decide) rfl 701 rfl ?_
    refine vv_aload_n C dL_law_701 rfl 4 rfl 702 rfl ?_
    refine vv_callVi C (fun l => mt_X7_thrown l D c (mA m0 M) ((up (up S 60 (fun _ => q'.2.1)) 68 q'.2.2) 60 0) ((up (up S 60 (fun _ => q'.2.1)) 68 q'.2.2) 61 0) ((up (up S 60 (fun _ => q'.2.1)) 68 q'.2.2) 63 0) ((up (up S 60 (fun _ => q'.2.1)) 68 q'.2.2) 64 0) ((up (up S 60 (fun _ => q'.2.1)) 68 q'.2.2) 65 0) ((up (up S 60 (fun _ => q'.2.1)) 68 q'.2.2) 67 0) q'.2.1 rfl) gL_law_X7_thrown rfl rfl rfl yd_X7_thrown ⟨Nat.le_of_ble_eq_true rfl, Nat.le_of_ble_eq_true rfl⟩ [57] rfl (by decide) 0 rfl rfl (wLaw c X W R B K Q T TB TK TQ Y m0 M o (up (up S 60 (fun _ => q'.2.1)) 68 q'.2.2) f) [(false, 0), (false, 1), (false, 2), (false, 3), (false, 4), (false, 5), (false, 6), (false, 7), (false, 8), (false, 9), (false, 10), (false, 11), (false, 12), (false, 13), (false, 14), (false, 15), (false, 16), (false, 17), (false, 18), (false, 19), (false, 20), (false, 21), (false, 22), (false, 23), (false, 24), (false, 25), (false, 26), (false, 27), (false, 28), (false, 29), (false, 30), (false, 31), (false, 32), (false, 33), (false, 34), (false, 35), (false, 36), (false, 37), (false, 38), (false, 39), (false, 40), (false, 41), (false, 42), (false, 43), (false, 44), (false, 45), (false, 46), (false, 47), (false, 48), (false, 49), (false, 50), (false, 51), (false, 52), (false, 53), (false, 54), (false, 55), (false, 56), (true, 0), (false, 58), (false, 59), (false, 60), (false, 61), (false, 62), (false, 63), (false, 64), (false, 65), (false, 66), (false, 67), (false, 68), (false, 69), (false, 70)] rfl (by decide) rfl rfl [] rfl (Nat.le_of_ble_eq_true rfl) ⟨show cells + 1 + 0 ≤ 601024 by omega, show slots + 6 + 0 ≤ 7293034 by omega⟩ dL_law_702 705 (cells + 1 + 0) (slots + 6 + 0) rfl ⟨rfl, rfl⟩ ?_
    refine vv_iload C dL_law_705 1 rfl 707 rfl ?_
    refine vv_icmp_eq C 712 710 dL_law_707 (by decide) rfl (fun _ => ?_) (fun hc => absurd hthr hc)
    refine vv_iload C dL_law_712 1 rfl 714 rfl ?_
    refine vv_if_ne C 729 717 dL_law_714 (by decide) rfl (fun _ => ?_) (fun hc => absurd hc hk0)
    refine vv_goto C 1623 dL_law_729 (by decide) ?_
    refine vv_lv [2, 3, 4, 5, 6] [(0, .ref b), (1, .ref (X 0)), (2, .ref m0), (3, .ref o), (4, .int v4)] rfl ?_
    refine vv_cs (k := cells + (1 + 0)) (n := slots + (6 + 0)) (by omega) (by omega) ?_
    exact K1 _ _ _ _ _ hRel ⟨by omega, by omega, Or.inl (by omega)⟩
  · obtain ⟨hret, hRel⟩ := hval u rfl
    refine vv_aload_n C dL_law_664 rfl 1 rfl 665 rfl ?_
    refine vv_aload_n C dL_law_665 rfl 0 rfl 666 rfl ?_
    refine vv_iload C dL_law_666 4 rfl 668 rfl ?_
    refine vv_iconst C (v := 1) dL_law_668 (by decide) 669 rfl ?_
    refine vv_iadd C dL_law_669 670 rfl ?_
    refine vv_sld C XS (hin 1 (by decide)) dL_law_670 671 rfl ?_
    refine vv_aload_n C dL_law_671 rfl 0 rfl 672 rfl ?_
    refine vv_iload C dL_law_672 4 rfl 674 rfl ?_
    refine vv_iconst C (v := 2) dL_law_674 (by decide) 675 rfl ?_
    refine vv_iadd C dL_law_675 676 rfl ?_
    refine vv_sld C XS (hin 2 (by decide)) dL_law_676 677 rfl ?_
    refine vv_aload_n C dL_law_677 rfl 3 rfl 678 rfl ?_
    refine vv_callW C XW (fun l hfl => mt_L_load l hfl D c X W R B K Q T Y (S 0 0) (S 10 0) (S 11 0) (S 23 0) (S 17) (S 19) (xs (v4 + 1).toNatClampNeg) (xs (v4 + 2).toNatClampNeg) o f (Sum.inr u) hA (fun k2 e2 => nomatch e2)) gL_law_L_load rfl rfl rfl yd_L_load ⟨Nat.le_of_ble_eq_true rfl, Nat.le_of_ble_eq_true rfl⟩ [0, 6, 9, 15, 17, 70] rfl (by decide) (wLaw c X W R B K Q T TB TK TQ Y m0 M o (up S 17 u.2) (vp_updL f 0 u.1.toInt64)) [(true, 0), (false, 1), (false, 2), (false, 3), (false, 4), (false, 5), (true, 1), (false, 7), (false, 8), (true, 2), (false, 10), (false, 11), (false, 12), (false, 13), (false, 14), (true, 3), (false, 16), (true, 4), (false, 18), (false, 19), (false, 20), (false, 21), (false, 22), (false, 23), (false, 24), (false, 25), (false, 26), (false, 27), (false, 28), (false, 29), (false, 30), (false, 31), (false, 32), (false, 33), (false, 34), (false, 35), (false, 36), (false, 37), (false, 38), (false, 39), (false, 40), (false, 41), (false, 42), (false, 43), (false, 44), (false, 45), (false, 46), (false, 47), (false, 48), (false, 49), (false, 50), (false, 51), (false, 52), (false, 53), (false, 54), (false, 55), (false, 56), (false, 57), (false, 58), (false, 59), (false, 60), (false, 61), (false, 62), (false, 63), (false, 64), (false, 65), (false, 66), (false, 67), (false, 68), (false, 69), (true, 5)] rfl (by decide) rfl rfl [] rfl (Nat.le_of_ble_eq_true rfl) ⟨show cells + 1 ≤ 601024 by omega, show slots + 6 ≤ 7293034 by omega⟩ dL_law_678 681 (cells + 1) (slots + 6) rfl ⟨rfl, rfl⟩ ?_
    refine vv_istore C [(5, .int (sel (Sum.inr u : Nat ⊕ (Int32 × (Nat → Int32))) kcL_load (fun _ => 0))), (0, .ref b), (1, .ref (X 0)), (2, .ref m0), (3, .ref o), (4, .int v4)] dL_law_681 (by decide) rfl 683 rfl ?_
    refine vv_aload_n C dL_law_683 rfl 3 rfl 684 rfl ?_
    refine vv_aload_n C dL_law_684 rfl 1 rfl 685 rfl ?_
    refine vv_iload C dL_law_685 5 rfl 687 rfl ?_
    refine vv_iconst C (v := 1) dL_law_687 (by decide) 688 rfl ?_
    refine vv_iadd C dL_law_688 689 rfl ?_
    refine vv_sld C XS (hin 1 (by decide)) dL_law_689 690 rfl ?_
    refine vv_aload_n C dL_law_690 rfl 1 rfl 691 rfl ?_
    refine vv_iload C dL_law_691 5 rfl 693 rfl ?_
    refine vv_iconst C (v := 2) dL_law_693 (by decide) 694 rfl ?_
    refine vv_iadd C dL_law_694 695 rfl ?_
    refine vv_sld C XS (hin 2 (by decide)) dL_law_695 696 rfl ?_
    refine vv_callVi C (fun l => mt_X7_load l D c (mA m0 M) (S 60 0) (S 61 0) (S 63 0) (S 64 0) (S 65 0) (S 67 0) (S 68) (xs (v4 + 1).toNatClampNeg) (xs (v4 + 2).toNatClampNeg) q' hB) gL_law_X7_load rfl rfl rfl yd_X7_load ⟨Nat.le_of_ble_eq_true rfl, Nat.le_of_ble_eq_true rfl⟩ [57, 60] rfl (by decide) 0 rfl rfl (wLaw c X W R B K Q T TB TK TQ Y m0 M o (up (up (up S 17 u.2) 60 (fun _ => q'.2.1)) 68 q'.2.2) (vp_updL f 0 u.1.toInt64)) [(false, 0), (false, 1), (false, 2), (false, 3), (false, 4), (false, 5), (false, 6), (false, 7), (false, 8), (false, 9), (false, 10), (false, 11), (false, 12), (false, 13), (false, 14), (false, 15), (false, 16), (false, 17), (false, 18), (false, 19), (false, 20), (false, 21), (false, 22), (false, 23), (false, 24), (false, 25), (false, 26), (false, 27), (false, 28), (false, 29), (false, 30), (false, 31), (false, 32), (false, 33), (false, 34), (false, 35), (false, 36), (false, 37), (false, 38), (false, 39), (false, 40), (false, 41), (false, 42), (false, 43), (false, 44), (false, 45), (false, 46), (false, 47), (false, 48), (false, 49), (false, 50), (false, 51), (false, 52), (false, 53), (false, 54), (false, 55), (false, 56), (true, 0), (false, 58), (false, 59), (true, 1), (false, 61), (false, 62), (false, 63), (false, 64), (false, 65), (false, 66), (false, 67), (false, 68), (false, 69), (false, 70)] rfl (by decide) rfl rfl [] rfl (Nat.le_of_ble_eq_true rfl) ⟨show cells + 1 + 0 ≤ 601024 by omega, show slots + 6 + 0 ≤ 7293034 by omega⟩ dL_law_696 699 (cells + 1 + 0) (slots + 6 + 0) rfl ⟨rfl, rfl⟩ ?_
    refine vv_istore C [(6, .int q'.1), (5, .int (sel (Sum.inr u : Nat ⊕ (Int32 × (Nat → Int32))) kcL_load (fun _ => 0))), (0, .ref b), (1, .ref (X 0)), (2, .ref m0), (3, .ref o), (4, .int v4)] dL_law_699 (by decide) rfl 701 rfl ?_
    refine vv_aload_n C dL_law_701 rfl 4 rfl 702 rfl ?_
    refine vv_callVi C (fun l => mt_X7_thrown l D c (mA m0 M) ((up (up (up S 17 u.2) 60 (fun _ => q'.2.1)) 68 q'.2.2) 60 0) ((up (up (up S 17 u.2) 60 (fun _ => q'.2.1)) 68 q'.2.2) 61 0) ((up (up (up S 17 u.2) 60 (fun _ => q'.2.1)) 68 q'.2.2) 63 0) ((up (up (up S 17 u.2) 60 (fun _ => q'.2.1)) 68 q'.2.2) 64 0) ((up (up (up S 17 u.2) 60 (fun _ => q'.2.1)) 68 q'.2.2) 65 0) ((up (up (up S 17 u.2) 60 (fun _ => q'.2.1)) 68 q'.2.2) 67 0) q'.2.1 rfl) gL_law_X7_thrown rfl rfl rfl yd_X7_thrown ⟨Nat.le_of_ble_eq_true rfl, Nat.le_of_ble_eq_true rfl⟩ [57] rfl (by decide) 0 rfl rfl (wLaw c X W R B K Q T TB TK TQ Y m0 M o (up (up (up S 17 u.2) 60 (fun _ => q'.2.1)) 68 q'.2.2) (vp_updL f 0 u.1.toInt64)) [(false, 0), (false, 1), (false, 2), (false, 3), (false, 4), (false, 5), (false, 6), (false, 7), (false, 8), (false, 9), (false, 10), (false, 11), (false, 12), (false, 13), (false, 14), (false, 15), (false, 16), (false, 17), (false, 18), (false, 19), (false, 20), (false, 21), (false, 22), (false, 23), (false, 24), (false, 25), (false, 26), (false, 27), (false, 28), (false, 29), (false, 30), (false, 31), (false, 32), (false, 33), (false, 34), (false, 35), (false, 36), (false, 37), (false, 38), (false, 39), (false, 40), (false, 41), (false, 42), (false, 43), (false, 44), (false, 45), (false, 46), (false, 47), (false, 48), (false, 49), (false, 50), (false, 51), (false, 52), (false, 53), (false, 54), (false, 55), (false, 56), (true, 0), (false, 58), (false, 59), (false, 60), (false, 61), (false, 62), (false, 63), (false, 64), (false, 65), (false, 66), (false, 67), (false, 68), (false, 69), (false, 70)] rfl (by decide) rfl rfl [] rfl (Nat.le_of_ble_eq_true rfl) ⟨show cells + 1 + 0 ≤ 601024 by omega, show slots + 6 + 0 ≤ 7293034 by omega⟩ dL_law_702 705 (cells + 1 + 0) (slots + 6 + 0) rfl ⟨rfl, rfl⟩ ?_
    refine vv_iload C dL_law_705 1 rfl 707 rfl ?_
    refine vv_icmp_eq C 712 710 dL_law_707 (by decide) rfl (fun _ => ?_) (fun hc => absurd hthr hc)
    refine vv_iload C dL_law_712 1 rfl 714 rfl ?_
    refine vv_if_ne C 729 717 dL_law_714 (by decide) rfl (fun hc => absurd rfl hc) (fun _ => ?_)
    refine vv_aload_n C dL_law_717 rfl 5 rfl 718 rfl ?_
    refine vv_iconst C (v := 0) dL_law_718 (by decide) 719 rfl ?_
    refine vv_lald C (q0 := 70) rfl (inB_t (by decide)) dL_law_719 720 rfl ?_
    refine vv_iload C dL_law_720 0 rfl 722 rfl ?_
    refine vv_i2l C dL_law_722 723 rfl ?_
    refine vv_lcmp C dL_law_723 724 rfl ?_
    refine vv_if_eq C 729 727 dL_law_724 (by decide) rfl (fun _ => ?_) (fun hc => absurd (by rw [hret]; exact lcmp_self _) hc)
    refine vv_goto C 1623 dL_law_729 (by decide) ?_
    refine vv_lv [2, 3, 4, 5, 6] [(0, .ref b), (1, .ref (X 0)), (2, .ref m0), (3, .ref o), (4, .int v4)] rfl ?_
    refine vv_cs (k := cells + (1 + 0)) (n := slots + (6 + 0)) (by omega) (by omega) ?_
    exact K1 _ _ _ _ _ hRel ⟨by omega, by omega, Or.inl (by omega)⟩
set_option maxHeartbeats 4000000 in
set_option maxRecDepth 100000 in
theorem law_barrel {g : CtxT} {D : va_G} {c : Nat → ClassId} {b L : Nat} {xs : Nat → Int32} (C : CX g D c cL_law RL wsL_law 9 room_1) (XS : SXc b L xs g) (XW : WXL g) (X W R B K Q T TB TK TQ Y : Nat → Nat) (m0 : Nat) (M : Nat → Nat) (o : Nat) (S : Nat → Nat → Int32) (f : Nat → Int64) (v4 : Int32) (hin : ∀ j : Nat, j < 8 → vp_in (v4 + nI j) L) (hR : Rel S) (cells slots : Nat) (hroom : cells + 67 ≤ 601024 ∧ slots + 14262 ≤ 7293034)
    (K1 : ∀ (S' : Nat → Nat → Int32) (f' : Nat → Int64) (M' : Nat → Nat) (a b' : Nat), Rel S' → Cost S S' a b' → VV g D 9 (cells + a) (slots + b') (wLaw c X W R B K Q T TB TK TQ Y m0 M' o S' f') [(0, .ref b), (1, .ref (X 0)), (2, .ref m0), (3, .ref o), (4, .int v4)] 1623 []) : VV g D 9 cells slots (wLaw c X W R B K Q T TB TK TQ Y m0 M o S f) [(0, .ref b), (1, .ref (X 0)), (2, .ref m0), (3, .ref o), (4, .int v4)] 732 [] := by
  obtain ⟨q, q', hA, hB, hthr, hexc, hval⟩ := sim_barrel S (xs (v4 + 1).toNatClampNeg) (xs (v4 + 2).toNatClampNeg) hR
  rcases q with k | u
  · obtain ⟨hk, hRel⟩ := hexc k rfl
    have hk0 : ¬ (sel (Sum.inl k : Nat ⊕ (Int32)) kcL_barrel (fun _ => 0)) = 0 := by
      obtain rfl : k = 3 := by simpa using hk
      decide
    refine vv_aload_n C dL_law_732 rfl 1 rfl 733 rfl ?_
    refine vv_aload_n C dL_law_733 rfl 0 rfl 734 rfl ?_
    refine vv_iload C dL_law_734 4 rfl 736 rfl ?_
    refine vv_iconst C (v := 1) dL_law_736 (by decide) 737 rfl ?_
    refine vv_iadd C dL_law_737 738 rfl ?_
    refine vv_sld C XS (hin 1 (by decide)) dL_law_738 739 rfl ?_
    refine vv_aload_n C dL_law_739 rfl 0 rfl 740 rfl ?_
    refine vv_iload C dL_law_740 4 rfl 742 rfl ?_
    refine vv_iconst C (v := 2) dL_law_742 (by decide) 743 rfl ?_
    refine vv_iadd C dL_law_743 744 rfl ?_
    refine vv_sld C XS (hin 2 (by decide)) dL_law_744 745 rfl ?_
    refine vv_aload_n C dL_law_745 rfl 3 rfl 746 rfl ?_
    refine vv_callW C XW (fun l hfl => mt_L_barrel l hfl D c X W R B K Q T Y (S 0 0) (S 10 0) (S 11 0) (S 23 0) (S 12) (S 13) (S 14) (S 15) (S 16) (S 17) (S 18) (S 19) (S 20) (S 21) (S 22) (S 31 0) (S 27) (S 28) (xs (v4 + 1).toNatClampNeg) (xs (v4 + 2).toNatClampNeg) o f (Sum.inl k) hA (fun k2 e2 => by cases e2; exact hk)) gL_law_L_barrel rfl rfl rfl yd_L_barrel ⟨Nat.le_of_ble_eq_true rfl, Nat.le_of_ble_eq_true rfl⟩ [0, 6, 9, 10, 11, 12, 13, 14, 15, 16, 17, 18, 19, 20, 24, 25, 26, 70] rfl (by decide) (wLaw c X W R B K Q T TB TK TQ Y m0 M o S f) [(true, 0), (false, 1), (false, 2), (false, 3), (false, 4), (false, 5), (true, 1), (false, 7), (false, 8), (true, 2), (true, 3), (true, 4), (true, 5), (true, 6), (true, 7), (true, 8), (true, 9), (true, 10), (true, 11), (true, 12), (true, 13), (false, 21), (false, 22), (false, 23), (true, 14), (true, 15), (true, 16), (false, 27), (false, 28), (false, 29), (false, 30), (false, 31), (false, 32), (false, 33), (false, 34), (false, 35), (false, 36), (false, 37), (false, 38), (false, 39), (false, 40), (false, 41), (false, 42), (false, 43), (false, 44), (false, 45), (false, 46), (false, 47), (false, 48), (false, 49), (false, 50), (false, 51), (false, 52), (false, 53), (false, 54), (false, 55), (false, 56), (false, 57), (false, 58), (false, 59), (false, 60), (false, 61), (false, 62), (false, 63), (false, 64), (false, 65), (false, 66), (false, 67), (false, 68), (false, 69), (true, 17)] rfl (by decide) rfl rfl [] rfl (Nat.le_of_ble_eq_true rfl) ⟨show cells + 1 ≤ 601024 by omega, show slots + 6 ≤ 7293034 by omega⟩ dL_law_746 749 (cells + 1) (slots + 6) rfl ⟨rfl, rfl⟩ ?_
    refine vv_istore C [(5, .int (sel (Sum.inl k : Nat ⊕ (Int32)) kcL_barrel (fun _ => 0))), (0, .ref b), (1, .ref (X 0)), (2, .ref m0), (3, .ref o), (4, .int v4)] dL_law_749 (by decide) rfl 751 rfl ?_
    refine vv_aload_n C dL_law_751 rfl 3 rfl 752 rfl ?_
    refine vv_aload_n C dL_law_752 rfl 1 rfl 753 rfl ?_
    refine vv_iload C dL_law_753 5 rfl 755 rfl ?_
    refine vv_iconst C (v := 1) dL_law_755 (by decide) 756 rfl ?_
    refine vv_iadd C dL_law_756 757 rfl ?_
    refine vv_sld C XS (hin 1 (by decide)) dL_law_757 758 rfl ?_
    refine vv_aload_n C dL_law_758 rfl 1 rfl 759 rfl ?_
    refine vv_iload C dL_law_759 5 rfl 761 rfl ?_
    refine vv_iconst C (v := 2) dL_law_761 (by decide) 762 rfl ?_
    refine vv_iadd C dL_law_762 763 rfl ?_
    refine vv_sld C XS (hin 2 (by decide)) dL_law_763 764 rfl ?_
    refine vv_callVi C (fun l => mt_X7_barrel l D c (mA m0 M) (S 60 0) (S 61 0) (S 63 0) (S 64 0) (S 65 0) (S 67 0) (S 66) (S 68) (S 69) (S 71) (S 73) (xs (v4 + 1).toNatClampNeg) (xs (v4 + 2).toNatClampNeg) q' hB) gL_law_X7_barrel rfl rfl rfl yd_X7_barrel ⟨Nat.le_of_ble_eq_true rfl, Nat.le_of_ble_eq_true rfl⟩ [57, 59, 60, 61, 63, 65] rfl (by decide) 0 rfl rfl (wLaw c X W R B K Q T TB TK TQ Y m0 M o (up (up S 60 (fun _ => q'.2.1)) 73 q'.2.2) f) [(false, 0), (false, 1), (false, 2), (false, 3), (false, 4), (false, 5), (false, 6), (false, 7), (false, 8), (false, 9), (false, 10), (false, 11), (false, 12), (false, 13), (false, 14), (false, 15), (false, 16), (false, 17), (false, 18), (false, 19), (false, 20), (false, 21), (false, 22), (false, 23), (false, 24), (false, 25), (false, 26), (false, 27), (false, 28), (false, 29), (false, 30), (false, 31), (false, 32), (false, 33), (false, 34), (false, 35), (false, 36), (false, 37), (false, 38), (false, 39), (false, 40), (false, 41), (false, 42), (false, 43), (false, 44), (false, 45), (false, 46), (false, 47), (false, 48), (false, 49), (false, 50), (false, 51), (false, 52), (false, 53), (false, 54), (false, 55), (false, 56), (true, 0), (false, 58), (true, 1), (true, 2), (true, 3), (false, 62), (true, 4), (false, 64), (true, 5), (false, 66), (false, 67), (false, 68), (false, 69), (false, 70)] rfl (by decide) rfl rfl [] rfl (Nat.le_of_ble_eq_true rfl) ⟨show cells + 1 + 0 ≤ 601024 by omega, show slots + 6 + 0 ≤ 7293034 by omega⟩ dL_law_764 767 (cells + 1 + 0) (slots + 6 + 0) rfl ⟨rfl, rfl⟩ ?_
    refine vv_istore C [(6, .int q'.1), (5, .int (sel (Sum.inl k : Nat ⊕ (Int32)) kcL_barrel (fun _ => 0))), (0, .ref b), (1, .ref (X 0)), (2, .ref m0), (3, .ref o), (4, .int v4)] dL_law_767 (by decide) rfl 769 rfl ?_
    refine vv_aload_n C dL_law_769 rfl 4 rfl 770 rfl ?_
    refine vv_callVi C (fun l => mt_X7_thrown l D c (mA m0 M) ((up (up S 60 (fun _ => q'.2.1)) 73 q'.2.2) 60 0) ((up (up S 60 (fun _ => q'.2.1)) 73 q'.2.2) 61 0) ((up (up S 60 (fun _ => q'.2.1)) 73 q'.2.2) 63 0) ((up (up S 60 (fun _ => q'.2.1)) 73 q'.2.2) 64 0) ((up (up S 60 (fun _ => q'.2.1)) 73 q'.2.2) 65 0) ((up (up S 60 (fun _ => q'.2.1)) 73 q'.2.2) 67 0) q'.2.1 rfl) gL_law_X7_thrown rfl rfl rfl yd_X7_thrown ⟨Nat.le_of_ble_eq_true rfl, Nat.le_of_ble_eq_true rfl⟩ [57] rfl (by decide) 0 rfl rfl (wLaw c X W R B K Q T TB TK TQ Y m0 M o (up (up S 60 (fun _ => q'.2.1)) 73 q'.2.2) f) [(false, 0), (false, 1), (false, 2), (false, 3), (false, 4), (false, 5), (false, 6), (false, 7), (false, 8), (false, 9), (false, 10), (false, 11), (false, 12), (false, 13), (false, 14), (false, 15), (false, 16), (false, 17), (false, 18), (false, 19), (false, 20), (false, 21), (false, 22), (false, 23), (false, 24), (false, 25), (false, 26), (false, 27), (false, 28), (false, 29), (false, 30), (false, 31), (false, 32), (false, 33), (false, 34), (false, 35), (false, 36), (false, 37), (false, 38), (false, 39), (false, 40), (false, 41), (false, 42), (false, 43), (false, 44), (false, 45), (false, 46), (false, 47), (false, 48), (false, 49), (false, 50), (false, 51), (false, 52), (false, 53), (false, 54), (false, 55), (false, 56), (true, 0), (false, 58), (false, 59), (false, 60), (false, 61), (false, 62), (false, 63), (false, 64), (false, 65), (false, 66), (false, 67), (false, 68), (false, 69), (false, 70)] rfl (by decide) rfl rfl [] rfl (Nat.le_of_ble_eq_true rfl) ⟨show cells + 1 + 0 ≤ 601024 by omega, show slots + 6 + 0 ≤ 7293034 by omega⟩ dL_law_770 773 (cells + 1 + 0) (slots + 6 + 0) rfl ⟨rfl, rfl⟩ ?_
    refine vv_iload C dL_law_773 1 rfl 775 rfl ?_
    refine vv_icmp_eq C 780 778 dL_law_775 (by decide) rfl (fun _ => ?_) (fun hc => absurd hthr hc)
    refine vv_iload C dL_law_780 1 rfl 782 rfl ?_
    refine vv_if_ne C 797 785 dL_law_782 (by decide) rfl (fun _ => ?_) (fun hc => absurd hc hk0)
    refine vv_goto C 1623 dL_law_797 (by decide) ?_
    refine vv_lv [2, 3, 4, 5, 6] [(0, .ref b), (1, .ref (X 0)), (2, .ref m0), (3, .ref o), (4, .int v4)] rfl ?_
    refine vv_cs (k := cells + (1 + 0)) (n := slots + (6 + 0)) (by omega) (by omega) ?_
    exact K1 _ _ _ _ _ hRel ⟨by omega, by omega, Or.inl (by omega)⟩
  · obtain ⟨hret, hRel⟩ := hval u rfl
    refine vv_aload_n C dL_law_732 rfl 1 rfl 733 rfl ?_
    refine vv_aload_n C dL_law_733 rfl 0 rfl 734 rfl ?_
    refine vv_iload C dL_law_734 4 rfl 736 rfl ?_
    refine vv_iconst C (v := 1) dL_law_736 (by decide) 737 rfl ?_
    refine vv_iadd C dL_law_737 738 rfl ?_
    refine vv_sld C XS (hin 1 (by decide)) dL_law_738 739 rfl ?_
    refine vv_aload_n C dL_law_739 rfl 0 rfl 740 rfl ?_
    refine vv_iload C dL_law_740 4 rfl 742 rfl ?_
    refine vv_iconst C (v := 2) dL_law_742 (by decide) 743 rfl ?_
    refine vv_iadd C dL_law_743 744 rfl ?_
    refine vv_sld C XS (hin 2 (by decide)) dL_law_744 745 rfl ?_
    refine vv_aload_n C dL_law_745 rfl 3 rfl 746 rfl ?_
    refine vv_callW C XW (fun l hfl => mt_L_barrel l hfl D c X W R B K Q T Y (S 0 0) (S 10 0) (S 11 0) (S 23 0) (S 12) (S 13) (S 14) (S 15) (S 16) (S 17) (S 18) (S 19) (S 20) (S 21) (S 22) (S 31 0) (S 27) (S 28) (xs (v4 + 1).toNatClampNeg) (xs (v4 + 2).toNatClampNeg) o f (Sum.inr u) hA (fun k2 e2 => nomatch e2)) gL_law_L_barrel rfl rfl rfl yd_L_barrel ⟨Nat.le_of_ble_eq_true rfl, Nat.le_of_ble_eq_true rfl⟩ [0, 6, 9, 10, 11, 12, 13, 14, 15, 16, 17, 18, 19, 20, 24, 25, 26, 70] rfl (by decide) (wLaw c X W R B K Q T TB TK TQ Y m0 M o S (vp_updL f 0 u.toInt64)) [(true, 0), (false, 1), (false, 2), (false, 3), (false, 4), (false, 5), (true, 1), (false, 7), (false, 8), (true, 2), (true, 3), (true, 4), (true, 5), (true, 6), (true, 7), (true, 8), (true, 9), (true, 10), (true, 11), (true, 12), (true, 13), (false, 21), (false, 22), (false, 23), (true, 14), (true, 15), (true, 16), (false, 27), (false, 28), (false, 29), (false, 30), (false, 31), (false, 32), (false, 33), (false, 34), (false, 35), (false, 36), (false, 37), (false, 38), (false, 39), (false, 40), (false, 41), (false, 42), (false, 43), (false, 44), (false, 45), (false, 46), (false, 47), (false, 48), (false, 49), (false, 50), (false, 51), (false, 52), (false, 53), (false, 54), (false, 55), (false, 56), (false, 57), (false, 58), (false, 59), (false, 60), (false, 61), (false, 62), (false, 63), (false, 64), (false, 65), (false, 66), (false, 67), (false, 68), (false, 69), (true, 17)] rfl (by decide) rfl rfl [] rfl (Nat.le_of_ble_eq_true rfl) ⟨show cells + 1 ≤ 601024 by omega, show slots + 6 ≤ 7293034 by omega⟩ dL_law_746 749 (cells + 1) (slots + 6) rfl ⟨rfl, rfl⟩ ?_
    refine vv_istore C [(5, .int (sel (Sum.inr u : Nat ⊕ (Int32)) kcL_barrel (fun _ => 0))), (0, .ref b), (1, .ref (X 0)), (2, .ref m0), (3, .ref o), (4, .int v4)] dL_law_749 (by decide) rfl 751 rfl ?_
    refine vv_aload_n C dL_law_751 rfl 3 rfl 752 rfl ?_
    refine vv_aload_n C dL_law_752 rfl 1 rfl 753 rfl ?_
    refine vv_iload C dL_law_753 5 rfl 755 rfl ?_
    refine vv_iconst C (v := 1) dL_law_755 (by decide) 756 rfl ?_
    refine vv_iadd C dL_law_756 757 rfl ?_
    refine vv_sld C XS (hin 1 (by decide)) dL_law_757 758 rfl ?_
    refine vv_aload_n C dL_law_758 rfl 1 rfl 759 rfl ?_
    refine vv_iload C dL_law_759 5 rfl 761 rfl ?_
    refine vv_iconst C (v := 2) dL_law_761 (by decide) 762 rfl ?_
    refine vv_iadd C dL_law_762 763 rfl ?_
    refine vv_sld C XS (hin 2 (by decide)) dL_law_763 764 rfl ?_
    refine vv_callVi C (fun l => mt_X7_barrel l D c (mA m0 M) (S 60 0) (S 61 0) (S 63 0) (S 64 0) (S 65 0) (S 67 0) (S 66) (S 68) (S 69) (S 71) (S 73) (xs (v4 + 1).toNatClampNeg) (xs (v4 + 2).toNatClampNeg) q' hB) gL_law_X7_barrel rfl rfl rfl yd_X7_barrel ⟨Nat.le_of_ble_eq_true rfl, Nat.le_of_ble_eq_true rfl⟩ [57, 59, 60, 61, 63, 65] rfl (by decide) 0 rfl rfl (wLaw c X W R B K Q T TB TK TQ Y m0 M o (up (up S 60 (fun _ => q'.2.1)) 73 q'.2.2) (vp_updL f 0 u.toInt64)) [(false, 0), (false, 1), (false, 2), (false, 3), (false, 4), (false, 5), (false, 6), (false, 7), (false, 8), (false, 9), (false, 10), (false, 11), (false, 12), (false, 13), (false, 14), (false, 15), (false, 16), (false, 17), (false, 18), (false, 19), (false, 20), (false, 21), (false, 22), (false, 23), (false, 24), (false, 25), (false, 26), (false, 27), (false, 28), (false, 29), (false, 30), (false, 31), (false, 32), (false, 33), (false, 34), (false, 35), (false, 36), (false, 37), (false, 38), (false, 39), (false, 40), (false, 41), (false, 42), (false, 43), (false, 44), (false, 45), (false, 46), (false, 47), (false, 48), (false, 49), (false, 50), (false, 51), (false, 52), (false, 53), (false, 54), (false, 55), (false, 56), (true, 0), (false, 58), (true, 1), (true, 2), (true, 3), (false, 62), (true, 4), (false, 64), (true, 5), (false, 66), (false, 67), (false, 68), (false, 69), (false, 70)] rfl (by decide) rfl rfl [] rfl (Nat.le_of_ble_eq_true rfl) ⟨show cells + 1 + 0 ≤ 601024 by omega, show slots + 6 + 0 ≤ 7293034 by omega⟩ dL_law_764 767 (cells + 1 + 0) (slots + 6 + 0) rfl ⟨rfl, rfl⟩ ?_
    refine vv_istore C [(6, .int q'.1), (5, .int (sel (Sum.inr u : Nat ⊕ (Int32)) kcL_barrel (fun _ => 0))), (0, .ref b), (1, .ref (X 0)), (2, .ref m0), (3, .ref o), (4, .int v4)] dL_law_767 (by decide) rfl 769 rfl ?_
    refine vv_aload_n C dL_law_769 rfl 4 rfl 770 rfl ?_
    refine vv_callVi C (fun l => mt_X7_thrown l D c (mA m0 M) ((up (up S 60 (fun _ => q'.2.1)) 73 q'.2.2) 60 0) ((up (up S 60 (fun _ => q'.2.1)) 73 q'.2.2) 61 0) ((up (up S 60 (fun _ => q'.2.1)) 73 q'.2.2) 63 0) ((up (up S 60 (fun _ => q'.2.1)) 73 q'.2.2) 64 0) ((up (up S 60 (fun _ => q'.2.1)) 73 q'.2.2) 65 0) ((up (up S 60 (fun _ => q'.2.1)) 73 q'.2.2) 67 0) q'.2.1 rfl) gL_law_X7_thrown rfl rfl rfl yd_X7_thrown ⟨Nat.le_of_ble_eq_true rfl, Nat.le_of_ble_eq_true rfl⟩ [57] rfl (by decide) 0 rfl rfl (wLaw c X W R B K Q T TB TK TQ Y m0 M o (up (up S 60 (fun _ => q'.2.1)) 73 q'.2.2) (vp_updL f 0 u.toInt64)) [(false, 0), (false, 1), (false, 2), (false, 3), (false, 4), (false, 5), (false, 6), (false, 7), (false, 8), (false, 9), (false, 10), (false, 11), (false, 12), (false, 13), (false, 14), (false, 15), (false, 16), (false, 17), (false, 18), (false, 19), (false, 20), (false, 21), (false, 22), (false, 23), (false, 24), (false, 25), (false, 26), (false, 27), (false, 28), (false, 29), (false, 30), (false, 31), (false, 32), (false, 33), (false, 34), (false, 35), (false, 36), (false, 37), (false, 38), (false, 39), (false, 40), (false, 41), (false, 42), (false, 43), (false, 44), (false, 45), (false, 46), (false, 47), (false, 48), (false, 49), (false, 50), (false, 51), (false, 52), (false, 53), (false, 54), (false, 55), (false, 56), (true, 0), (false, 58), (false, 59), (false, 60), (false, 61), (false, 62), (false, 63), (false, 64), (false, 65), (false, 66), (false, 67), (false, 68), (false, 69), (false, 70)] rfl (by decide) rfl rfl [] rfl (Nat.le_of_ble_eq_true rfl) ⟨show cells + 1 + 0 ≤ 601024 by omega, show slots + 6 + 0 ≤ 7293034 by omega⟩ dL_law_770 773 (cells + 1 + 0) (slots + 6 + 0) rfl ⟨rfl, rfl⟩ ?_
    refine vv_iload C dL_law_773 1 rfl 775 rfl ?_
    refine vv_icmp_eq C 780 778 dL_law_775 (by decide) rfl (fun _ => ?_) (fun hc => absurd hthr hc)
    refine vv_iload C dL_law_780 1 rfl 782 rfl ?_
    refine vv_if_ne C 797 785 dL_law_782 (by decide) rfl (fun hc => absurd rfl hc) (fun _ => ?_)
    refine vv_aload_n C dL_law_785 rfl 5 rfl 786 rfl ?_
    refine vv_iconst C (v := 0) dL_law_786 (by decide) 787 rfl ?_
    refine vv_lald C (q0 := 70) rfl (inB_t (by decide)) dL_law_787 788 rfl ?_
    refine vv_iload C dL_law_788 0 rfl 790 rfl ?_
    refine vv_i2l C dL_law_790 791 rfl ?_
    refine vv_lcmp C dL_law_791 792 rfl ?_
    refine vv_if_eq C 797 795 dL_law_792 (by decide) rfl (fun _ => ?_) (fun hc => absurd (by rw [hret]; exact lcmp_self _) hc)
    refine vv_goto C 1623 dL_law_797 (by decide) ?_
    refine vv_lv [2, 3, 4, 5, 6] [(0, .ref b), (1, .ref (X 0)), (2, .ref m0), (3, .ref o), (4, .int v4)] rfl ?_
    refine vv_cs (k := cells + (1 + 0)) (n := slots + (6 + 0)) (by omega) (by omega) ?_
    exact K1 _ _ _ _ _ hRel ⟨by omega, by omega, Or.inl (by omega)⟩
set_option maxHeartbeats 4000000 in
set_option maxRecDepth 100000 in
theorem law_lashing {g : CtxT} {D : va_G} {c : Nat → ClassId} {b L : Nat} {xs : Nat → Int32} (C : CX g D c cL_law RL wsL_law 9 room_1) (XS : SXc b L xs g) (XW : WXL g) (X W R B K Q T TB TK TQ Y : Nat → Nat) (m0 : Nat) (M : Nat → Nat) (o : Nat) (S : Nat → Nat → Int32) (f : Nat → Int64) (v4 : Int32) (hin : ∀ j : Nat, j < 8 → vp_in (v4 + nI j) L) (hR : Rel S) (cells slots : Nat) (hroom : cells + 67 ≤ 601024 ∧ slots + 14262 ≤ 7293034)
    (K1 : ∀ (S' : Nat → Nat → Int32) (f' : Nat → Int64) (M' : Nat → Nat) (a b' : Nat), Rel S' → Cost S S' a b' → VV g D 9 (cells + a) (slots + b') (wLaw c X W R B K Q T TB TK TQ Y m0 M' o S' f') [(0, .ref b), (1, .ref (X 0)), (2, .ref m0), (3, .ref o), (4, .int v4)] 1623 []) : VV g D 9 cells slots (wLaw c X W R B K Q T TB TK TQ Y m0 M o S f) [(0, .ref b), (1, .ref (X 0)), (2, .ref m0), (3, .ref o), (4, .int v4)] 800 [] := by
  obtain ⟨q, q', hA, hB, hthr, hexc, hval⟩ := sim_lashing S (xs (v4 + 1).toNatClampNeg) (xs (v4 + 2).toNatClampNeg) (xs (v4 + 3).toNatClampNeg) hR
  rcases q with k | u
  · obtain ⟨hk, hRel⟩ := hexc k rfl
    have hk0 : ¬ (sel (Sum.inl k : Nat ⊕ (Int32)) kcL_lashing (fun _ => 0)) = 0 := by
      obtain rfl : k = 3 := by simpa using hk
      decide
    refine vv_aload_n C dL_law_800 rfl 1 rfl 801 rfl ?_
    refine vv_aload_n C dL_law_801 rfl 0 rfl 802 rfl ?_
    refine vv_iload C dL_law_802 4 rfl 804 rfl ?_
    refine vv_iconst C (v := 1) dL_law_804 (by decide) 805 rfl ?_
    refine vv_iadd C dL_law_805 806 rfl ?_
    refine vv_sld C XS (hin 1 (by decide)) dL_law_806 807 rfl ?_
    refine vv_aload_n C dL_law_807 rfl 0 rfl 808 rfl ?_
    refine vv_iload C dL_law_808 4 rfl 810 rfl ?_
    refine vv_iconst C (v := 2) dL_law_810 (by decide) 811 rfl ?_
    refine vv_iadd C dL_law_811 812 rfl ?_
    refine vv_sld C XS (hin 2 (by decide)) dL_law_812 813 rfl ?_
    refine vv_aload_n C dL_law_813 rfl 0 rfl 814 rfl ?_
    refine vv_iload C dL_law_814 4 rfl 816 rfl ?_
    refine vv_iconst C (v := 3) dL_law_816 (by decide) 817 rfl ?_
    refine vv_iadd C dL_law_817 818 rfl ?_
    refine vv_sld C XS (hin 3 (by decide)) dL_law_818 819 rfl ?_
    refine vv_aload_n C dL_law_819 rfl 3 rfl 820 rfl ?_
    refine vv_callW C XW (fun l hfl => mt_L_lashing l hfl D c X W R B K Q T Y (S 0 0) (S 5 0) (S 6 0) (S 7 0) (S 3) (S 4) (S 10 0) (S 11 0) (S 23 0) (S 17) (S 18) (S 20) (S 21) (S 31 0) (S 27) (S 28) (S 29) (S 30) (xs (v4 + 1).toNatClampNeg) (xs (v4 + 2).toNatClampNeg) (xs (v4 + 3).toNatClampNeg) o f (Sum.inl k) hA (fun k2 e2 => by cases e2; exact hk)) gL_law_L_lashing rfl rfl rfl yd_L_lashing ⟨Nat.le_of_ble_eq_true rfl, Nat.le_of_ble_eq_true rfl⟩ [0, 1, 4, 5, 6, 9, 15, 16, 18, 19, 24, 25, 26, 27, 28, 70] rfl (by decide) (wLaw c X W R B K Q T TB TK TQ Y m0 M o S f) [(true, 0), (true, 1), (false, 2), (false, 3), (true, 2), (true, 3), (true, 4), (false, 7), (false, 8), (true, 5), (false, 10), (false, 11), (false, 12), (false, 13), (false, 14), (true, 6), (true, 7), (false, 17), (true, 8), (true, 9), (false, 20), (false, 21), (false, 22), (false, 23), (true, 10), (true, 11), (true, 12), (true, 13), (true, 14), (false, 29), (false, 30), (false, 31), (false, 32), (false, 33), (false, 34), (false, 35), (false, 36), (false, 37), (false, 38), (false, 39), (false, 40), (false, 41), (false, 42), (false, 43), (false, 44), (false, 45), (false, 46), (false, 47), (false, 48), (false, 49), (false, 50), (false, 51), (false, 52), (false, 53), (false, 54), (false, 55), (false, 56), (false, 57), (false, 58), (false, 59), (false, 60), (false, 61), (false, 62), (false, 63), (false, 64), (false, 65), (false, 66), (false, 67), (false, 68), (false, 69), (true, 15)] rfl (by decide) rfl rfl [] rfl (Nat.le_of_ble_eq_true rfl) ⟨show cells + 1 ≤ 601024 by omega, show slots + 6 ≤ 7293034 by omega⟩ dL_law_820 823 (cells + 1) (slots + 6) rfl ⟨rfl, rfl⟩ ?_
    refine vv_istore C [(5, .int (sel (Sum.inl k : Nat ⊕ (Int32)) kcL_lashing (fun _ => 0))), (0, .ref b), (1, .ref (X 0)), (2, .ref m0), (3, .ref o), (4, .int v4)] dL_law_823 (by decide) rfl 825 rfl ?_
    refine vv_aload_n C dL_law_825 rfl 3 rfl 826 rfl ?_
    refine vv_aload_n C dL_law_826 rfl 1 rfl 827 rfl ?_
    refine vv_iload C dL_law_827 5 rfl 829 rfl ?_
    refine vv_iconst C (v := 1) dL_law_829 (by decide) 830 rfl ?_
    refine vv_iadd C dL_law_830 831 rfl ?_
    refine vv_sld C XS (hin 1 (by decide)) dL_law_831 832 rfl ?_
    refine vv_aload_n C dL_law_832 rfl 1 rfl 833 rfl ?_
    refine vv_iload C dL_law_833 5 rfl 835 rfl ?_
    refine vv_iconst C (v := 2) dL_law_835 (by decide) 836 rfl ?_
    refine vv_iadd C dL_law_836 837 rfl ?_
    refine vv_sld C XS (hin 2 (by decide)) dL_law_837 838 rfl ?_
    refine vv_aload_n C dL_law_838 rfl 1 rfl 839 rfl ?_
    refine vv_iload C dL_law_839 5 rfl 841 rfl ?_
    refine vv_iconst C (v := 3) dL_law_841 (by decide) 842 rfl ?_
    refine vv_iadd C dL_law_842 843 rfl ?_
    refine vv_sld C XS (hin 3 (by decide)) dL_law_843 844 rfl ?_
    refine vv_callVi C (fun l => mt_X7_lashing l D c (mA m0 M) (S 60 0) (S 61 0) (S 63 0) (S 64 0) (S 65 0) (S 67 0) (S 62) (S 68) (S 69) (S 70) (S 71) (xs (v4 + 1).toNatClampNeg) (xs (v4 + 2).toNatClampNeg) (xs (v4 + 3).toNatClampNeg) q' hB) gL_law_X7_lashing rfl rfl rfl yd_X7_lashing ⟨Nat.le_of_ble_eq_true rfl, Nat.le_of_ble_eq_true rfl⟩ [57, 58, 60, 61, 62, 63] rfl (by decide) 0 rfl rfl (wLaw c X W R B K Q T TB TK TQ Y m0 M o (up S 60 (fun _ => q'.2)) f) [(false, 0), (false, 1), (false, 2), (false, 3), (false, 4), (false, 5), (false, 6), (false, 7), (false, 8), (false, 9), (false, 10), (false, 11), (false, 12), (false, 13), (false, 14), (false, 15), (false, 16), (false, 17), (false, 18), (false, 19), (false, 20), (false, 21), (false, 22), (false, 23), (false, 24), (false, 25), (false, 26), (false, 27), (false, 28), (false, 29), (false, 30), (false, 31), (false, 32), (false, 33), (false, 34), (false, 35), (false, 36), (false, 37), (false, 38), (false, 39), (false, 40), (false, 41), (false, 42), (false, 43), (false, 44), (false, 45), (false, 46), (false, 47), (false, 48), (false, 49), (false, 50), (false, 51), (false, 52), (false, 53), (false, 54), (false, 55), (false, 56), (true, 0), (true, 1), (false, 59), (true, 2), (true, 3), (true, 4), (true, 5), (false, 64), (false, 65), (false, 66), (false, 67), (false, 68), (false, 69), (false, 70)] rfl (by decide) rfl rfl [] rfl (Nat.le_of_ble_eq_true rfl) ⟨show cells + 1 + 0 ≤ 601024 by omega, show slots + 6 + 0 ≤ 7293034 by omega⟩ dL_law_844 847 (cells + 1 + 0) (slots + 6 + 0) rfl ⟨rfl, rfl⟩ ?_
    refine vv_istore C [(6, .int q'.1), (5, .int (sel (Sum.inl k : Nat ⊕ (Int32)) kcL_lashing (fun _ => 0))), (0, .ref b), (1, .ref (X 0)), (2, .ref m0), (3, .ref o), (4, .int v4)] dL_law_847 (by decide) rfl 849 rfl ?_
    refine vv_aload_n C dL_law_849 rfl 4 rfl 850 rfl ?_
    refine vv_callVi C (fun l => mt_X7_thrown l D c (mA m0 M) ((up S 60 (fun _ => q'.2)) 60 0) ((up S 60 (fun _ => q'.2)) 61 0) ((up S 60 (fun _ => q'.2)) 63 0) ((up S 60 (fun _ => q'.2)) 64 0) ((up S 60 (fun _ => q'.2)) 65 0) ((up S 60 (fun _ => q'.2)) 67 0) q'.2 rfl) gL_law_X7_thrown rfl rfl rfl yd_X7_thrown ⟨Nat.le_of_ble_eq_true rfl, Nat.le_of_ble_eq_true rfl⟩ [57] rfl (by decide) 0 rfl rfl (wLaw c X W R B K Q T TB TK TQ Y m0 M o (up S 60 (fun _ => q'.2)) f) [(false, 0), (false, 1), (false, 2), (false, 3), (false, 4), (false, 5), (false, 6), (false, 7), (false, 8), (false, 9), (false, 10), (false, 11), (false, 12), (false, 13), (false, 14), (false, 15), (false, 16), (false, 17), (false, 18), (false, 19), (false, 20), (false, 21), (false, 22), (false, 23), (false, 24), (false, 25), (false, 26), (false, 27), (false, 28), (false, 29), (false, 30), (false, 31), (false, 32), (false, 33), (false, 34), (false, 35), (false, 36), (false, 37), (false, 38), (false, 39), (false, 40), (false, 41), (false, 42), (false, 43), (false, 44), (false, 45), (false, 46), (false, 47), (false, 48), (false, 49), (false, 50), (false, 51), (false, 52), (false, 53), (false, 54), (false, 55), (false, 56), (true, 0), (false, 58), (false, 59), (false, 60), (false, 61), (false, 62), (false, 63), (false, 64), (false, 65), (false, 66), (false, 67), (false, 68), (false, 69), (false, 70)] rfl (by decide) rfl rfl [] rfl (Nat.le_of_ble_eq_true rfl) ⟨show cells + 1 + 0 ≤ 601024 by omega, show slots + 6 + 0 ≤ 7293034 by omega⟩ dL_law_850 853 (cells + 1 + 0) (slots + 6 + 0) rfl ⟨rfl, rfl⟩ ?_
    refine vv_iload C dL_law_853 1 rfl 855 rfl ?_
    refine vv_icmp_eq C 860 858 dL_law_855 (by decide) rfl (fun _ => ?_) (fun hc => absurd hthr hc)
    refine vv_iload C dL_law_860 1 rfl 862 rfl ?_
    refine vv_if_ne C 877 865 dL_law_862 (by decide) rfl (fun _ => ?_) (fun hc => absurd hc hk0)
    refine vv_goto C 1623 dL_law_877 (by decide) ?_
    refine vv_lv [2, 3, 4, 5, 6] [(0, .ref b), (1, .ref (X 0)), (2, .ref m0), (3, .ref o), (4, .int v4)] rfl ?_
    refine vv_cs (k := cells + (1 + 0)) (n := slots + (6 + 0)) (by omega) (by omega) ?_
    exact K1 _ _ _ _ _ hRel ⟨by omega, by omega, Or.inl (by omega)⟩
  · obtain ⟨hret, hRel⟩ := hval u rfl
    refine vv_aload_n C dL_law_800 rfl 1 rfl 801 rfl ?_
    refine vv_aload_n C dL_law_801 rfl 0 rfl 802 rfl ?_
    refine vv_iload C dL_law_802 4 rfl 804 rfl ?_
    refine vv_iconst C (v := 1) dL_law_804 (by decide) 805 rfl ?_
    refine vv_iadd C dL_law_805 806 rfl ?_
    refine vv_sld C XS (hin 1 (by decide)) dL_law_806 807 rfl ?_
    refine vv_aload_n C dL_law_807 rfl 0 rfl 808 rfl ?_
    refine vv_iload C dL_law_808 4 rfl 810 rfl ?_
    refine vv_iconst C (v := 2) dL_law_810 (by decide) 811 rfl ?_
    refine vv_iadd C dL_law_811 812 rfl ?_
    refine vv_sld C XS (hin 2 (by decide)) dL_law_812 813 rfl ?_
    refine vv_aload_n C dL_law_813 rfl 0 rfl 814 rfl ?_
    refine vv_iload C dL_law_814 4 rfl 816 rfl ?_
    refine vv_iconst C (v := 3) dL_law_816 (by decide) 817 rfl ?_
    refine vv_iadd C dL_law_817 818 rfl ?_
    refine vv_sld C XS (hin 3 (by decide)) dL_law_818 819 rfl ?_
    refine vv_aload_n C dL_law_819 rfl 3 rfl 820 rfl ?_
    refine vv_callW C XW (fun l hfl => mt_L_lashing l hfl D c X W R B K Q T Y (S 0 0) (S 5 0) (S 6 0) (S 7 0) (S 3) (S 4) (S 10 0) (S 11 0) (S 23 0) (S 17) (S 18) (S 20) (S 21) (S 31 0) (S 27) (S 28) (S 29) (S 30) (xs (v4 + 1).toNatClampNeg) (xs (v4 + 2).toNatClampNeg) (xs (v4 + 3).toNatClampNeg) o f (Sum.inr u) hA (fun k2 e2 => nomatch e2)) gL_law_L_lashing rfl rfl rfl yd_L_lashing ⟨Nat.le_of_ble_eq_true rfl, Nat.le_of_ble_eq_true rfl⟩ [0, 1, 4, 5, 6, 9, 15, 16, 18, 19, 24, 25, 26, 27, 28, 70] rfl (by decide) (wLaw c X W R B K Q T TB TK TQ Y m0 M o S (vp_updL f 0 u.toInt64)) [(true, 0), (true, 1), (false, 2), (false, 3), (true, 2), (true, 3), (true, 4), (false, 7), (false, 8), (true, 5), (false, 10), (false, 11), (false, 12), (false, 13), (false, 14), (true, 6), (true, 7), (false, 17), (true, 8), (true, 9), (false, 20), (false, 21), (false, 22), (false, 23), (true, 10), (true, 11), (true, 12), (true, 13), (true, 14), (false, 29), (false, 30), (false, 31), (false, 32), (false, 33), (false, 34), (false, 35), (false, 36), (false, 37), (false, 38), (false, 39), (false, 40), (false, 41), (false, 42), (false, 43), (false, 44), (false, 45), (false, 46), (false, 47), (false, 48), (false, 49), (false, 50), (false, 51), (false, 52), (false, 53), (false, 54), (false, 55), (false, 56), (false, 57), (false, 58), (false, 59), (false, 60), (false, 61), (false, 62), (false, 63), (false, 64), (false, 65), (false, 66), (false, 67), (false, 68), (false, 69), (true, 15)] rfl (by decide) rfl rfl [] rfl (Nat.le_of_ble_eq_true rfl) ⟨show cells + 1 ≤ 601024 by omega, show slots + 6 ≤ 7293034 by omega⟩ dL_law_820 823 (cells + 1) (slots + 6) rfl ⟨rfl, rfl⟩ ?_
    refine vv_istore C [(5, .int (sel (Sum.inr u : Nat ⊕ (Int32)) kcL_lashing (fun _ => 0))), (0, .ref b), (1, .ref (X 0)), (2, .ref m0), (3, .ref o), (4, .int v4)] dL_law_823 (by decide) rfl 825 rfl ?_
    refine vv_aload_n C dL_law_825 rfl 3 rfl 826 rfl ?_
    refine vv_aload_n C dL_law_826 rfl 1 rfl 827 rfl ?_
    refine vv_iload C dL_law_827 5 rfl 829 rfl ?_
    refine vv_iconst C (v := 1) dL_law_829 (by decide) 830 rfl ?_
    refine vv_iadd C dL_law_830 831 rfl ?_
    refine vv_sld C XS (hin 1 (by decide)) dL_law_831 832 rfl ?_
    refine vv_aload_n C dL_law_832 rfl 1 rfl 833 rfl ?_
    refine vv_iload C dL_law_833 5 rfl 835 rfl ?_
    refine vv_iconst C (v := 2) dL_law_835 (by decide) 836 rfl ?_
    refine vv_iadd C dL_law_836 837 rfl ?_
    refine vv_sld C XS (hin 2 (by decide)) dL_law_837 838 rfl ?_
    refine vv_aload_n C dL_law_838 rfl 1 rfl 839 rfl ?_
    refine vv_iload C dL_law_839 5 rfl 841 rfl ?_
    refine vv_iconst C (v := 3) dL_law_841 (by decide) 842 rfl ?_
    refine vv_iadd C dL_law_842 843 rfl ?_
    refine vv_sld C XS (hin 3 (by decide)) dL_law_843 844 rfl ?_
    refine vv_callVi C (fun l => mt_X7_lashing l D c (mA m0 M) (S 60 0) (S 61 0) (S 63 0) (S 64 0) (S 65 0) (S 67 0) (S 62) (S 68) (S 69) (S 70) (S 71) (xs (v4 + 1).toNatClampNeg) (xs (v4 + 2).toNatClampNeg) (xs (v4 + 3).toNatClampNeg) q' hB) gL_law_X7_lashing rfl rfl rfl yd_X7_lashing ⟨Nat.le_of_ble_eq_true rfl, Nat.le_of_ble_eq_true rfl⟩ [57, 58, 60, 61, 62, 63] rfl (by decide) 0 rfl rfl (wLaw c X W R B K Q T TB TK TQ Y m0 M o (up S 60 (fun _ => q'.2)) (vp_updL f 0 u.toInt64)) [(false, 0), (false, 1), (false, 2), (false, 3), (false, 4), (false, 5), (false, 6), (false, 7), (false, 8), (false, 9), (false, 10), (false, 11), (false, 12), (false, 13), (false, 14), (false, 15), (false, 16), (false, 17), (false, 18), (false, 19), (false, 20), (false, 21), (false, 22), (false, 23), (false, 24), (false, 25), (false, 26), (false, 27), (false, 28), (false, 29), (false, 30), (false, 31), (false, 32), (false, 33), (false, 34), (false, 35), (false, 36), (false, 37), (false, 38), (false, 39), (false, 40), (false, 41), (false, 42), (false, 43), (false, 44), (false, 45), (false, 46), (false, 47), (false, 48), (false, 49), (false, 50), (false, 51), (false, 52), (false, 53), (false, 54), (false, 55), (false, 56), (true, 0), (true, 1), (false, 59), (true, 2), (true, 3), (true, 4), (true, 5), (false, 64), (false, 65), (false, 66), (false, 67), (false, 68), (false, 69), (false, 70)] rfl (by decide) rfl rfl [] rfl (Nat.le_of_ble_eq_true rfl) ⟨show cells + 1 + 0 ≤ 601024 by omega, show slots + 6 + 0 ≤ 7293034 by omega⟩ dL_law_844 847 (cells + 1 + 0) (slots + 6 + 0) rfl ⟨rfl, rfl⟩ ?_
    refine vv_istore C [(6, .int q'.1), (5, .int (sel (Sum.inr u : Nat ⊕ (Int32)) kcL_lashing (fun _ => 0))), (0, .ref b), (1, .ref (X 0)), (2, .ref m0), (3, .ref o), (4, .int v4)] dL_law_847 (by decide) rfl 849 rfl ?_
    refine vv_aload_n C dL_law_849 rfl 4 rfl 850 rfl ?_
    refine vv_callVi C (fun l => mt_X7_thrown l D c (mA m0 M) ((up S 60 (fun _ => q'.2)) 60 0) ((up S 60 (fun _ => q'.2)) 61 0) ((up S 60 (fun _ => q'.2)) 63 0) ((up S 60 (fun _ => q'.2)) 64 0) ((up S 60 (fun _ => q'.2)) 65 0) ((up S 60 (fun _ => q'.2)) 67 0) q'.2 rfl) gL_law_X7_thrown rfl rfl rfl yd_X7_thrown ⟨Nat.le_of_ble_eq_true rfl, Nat.le_of_ble_eq_true rfl⟩ [57] rfl (by decide) 0 rfl rfl (wLaw c X W R B K Q T TB TK TQ Y m0 M o (up S 60 (fun _ => q'.2)) (vp_updL f 0 u.toInt64)) [(false, 0), (false, 1), (false, 2), (false, 3), (false, 4), (false, 5), (false, 6), (false, 7), (false, 8), (false, 9), (false, 10), (false, 11), (false, 12), (false, 13), (false, 14), (false, 15), (false, 16), (false, 17), (false, 18), (false, 19), (false, 20), (false, 21), (false, 22), (false, 23), (false, 24), (false, 25), (false, 26), (false, 27), (false, 28), (false, 29), (false, 30), (false, 31), (false, 32), (false, 33), (false, 34), (false, 35), (false, 36), (false, 37), (false, 38), (false, 39), (false, 40), (false, 41), (false, 42), (false, 43), (false, 44), (false, 45), (false, 46), (false, 47), (false, 48), (false, 49), (false, 50), (false, 51), (false, 52), (false, 53), (false, 54), (false, 55), (false, 56), (true, 0), (false, 58), (false, 59), (false, 60), (false, 61), (false, 62), (false, 63), (false, 64), (false, 65), (false, 66), (false, 67), (false, 68), (false, 69), (false, 70)] rfl (by decide) rfl rfl [] rfl (Nat.le_of_ble_eq_true rfl) ⟨show cells + 1 + 0 ≤ 601024 by omega, show slots + 6 + 0 ≤ 7293034 by omega⟩ dL_law_850 853 (cells + 1 + 0) (slots + 6 + 0) rfl ⟨rfl, rfl⟩ ?_
    refine vv_iload C dL_law_853 1 rfl 855 rfl ?_
    refine vv_icmp_eq C 860 858 dL_law_855 (by decide) rfl (fun _ => ?_) (fun hc => absurd hthr hc)
    refine vv_iload C dL_law_860 1 rfl 862 rfl ?_
    refine vv_if_ne C 877 865 dL_law_862 (by decide) rfl (fun hc => absurd rfl hc) (fun _ => ?_)
    refine vv_aload_n C dL_law_865 rfl 5 rfl 866 rfl ?_
    refine vv_iconst C (v := 0) dL_law_866 (by decide) 867 rfl ?_
    refine vv_lald C (q0 := 70) rfl (inB_t (by decide)) dL_law_867 868 rfl ?_
    refine vv_iload C dL_law_868 0 rfl 870 rfl ?_
    refine vv_i2l C dL_law_870 871 rfl ?_
    refine vv_lcmp C dL_law_871 872 rfl ?_
    refine vv_if_eq C 877 875 dL_law_872 (by decide) rfl (fun _ => ?_) (fun hc => absurd (by rw [hret]; exact lcmp_self _) hc)
    refine vv_goto C 1623 dL_law_877 (by decide) ?_
    refine vv_lv [2, 3, 4, 5, 6] [(0, .ref b), (1, .ref (X 0)), (2, .ref m0), (3, .ref o), (4, .int v4)] rfl ?_
    refine vv_cs (k := cells + (1 + 0)) (n := slots + (6 + 0)) (by omega) (by omega) ?_
    exact K1 _ _ _ _ _ hRel ⟨by omega, by omega, Or.inl (by omega)⟩
set_option maxHeartbeats 4000000 in
set_option maxRecDepth 100000 in
theorem law_addCastaway {g : CtxT} {D : va_G} {c : Nat → ClassId} {b L : Nat} {xs : Nat → Int32} (C : CX g D c cL_law RL wsL_law 9 room_1) (XS : SXc b L xs g) (XW : WXL g) (X W R B K Q T TB TK TQ Y : Nat → Nat) (m0 : Nat) (M : Nat → Nat) (o : Nat) (S : Nat → Nat → Int32) (f : Nat → Int64) (v4 : Int32) (hin : ∀ j : Nat, j < 8 → vp_in (v4 + nI j) L) (hR : Rel S) (cells slots : Nat) (hroom : cells + 67 ≤ 601024 ∧ slots + 14262 ≤ 7293034)
    (K1 : ∀ (S' : Nat → Nat → Int32) (f' : Nat → Int64) (M' : Nat → Nat) (a b' : Nat), Rel S' → Cost S S' a b' → VV g D 9 (cells + a) (slots + b') (wLaw c X W R B K Q T TB TK TQ Y m0 M' o S' f') [(0, .ref b), (1, .ref (X 0)), (2, .ref m0), (3, .ref o), (4, .int v4)] 1623 []) : VV g D 9 cells slots (wLaw c X W R B K Q T TB TK TQ Y m0 M o S f) [(0, .ref b), (1, .ref (X 0)), (2, .ref m0), (3, .ref o), (4, .int v4)] 880 [] := by
  obtain ⟨q, q', hA, hB, hthr, hexc, hval⟩ := sim_addCastaway S (xs (v4 + 1).toNatClampNeg) hR
  rcases q with k | u
  · obtain ⟨hk, hRel⟩ := hexc k rfl
    have hk0 : ¬ (sel (Sum.inl k : Nat ⊕ (Int32 × (Nat → Int32) × Int32 × (Nat → Int32) × (Nat → Int32))) kcL_addCastaway (fun _ => 0)) = 0 := by
      rcases (show k = 3 ∨ k = 2 by simpa using hk) with rfl | rfl <;> decide
    refine vv_aload_n C dL_law_880 rfl 1 rfl 881 rfl ?_
    refine vv_aload_n C dL_law_881 rfl 0 rfl 882 rfl ?_
    refine vv_iload C dL_law_882 4 rfl 884 rfl ?_
    refine vv_iconst C (v := 1) dL_law_884 (by decide) 885 rfl ?_
    refine vv_iadd C dL_law_885 886 rfl ?_
    refine vv_sld C XS (hin 1 (by decide)) dL_law_886 887 rfl ?_
    refine vv_aload_n C dL_law_887 rfl 3 rfl 888 rfl ?_
    refine vv_callW C XW (fun l hfl => mt_L_addCastaway l hfl D c X W R B K Q T Y (S 0 0) (S 10 0) (S 11 0) (S 23 0) (S 18) (S 19) (S 26 0) (S 24) (S 25) (xs (v4 + 1).toNatClampNeg) o f (Sum.inl k) hA (fun k2 e2 => by cases e2; exact hk)) gL_law_L_addCastaway rfl rfl rfl yd_L_addCastaway ⟨Nat.le_of_ble_eq_true rfl, Nat.le_of_ble_eq_true rfl⟩ [0, 6, 9, 16, 17, 21, 22, 23, 70] rfl (by decide) (wLaw c X W R B K Q T TB TK TQ Y m0 M o S f) [(true, 0), (false, 1), (false, 2), (false, 3), (false, 4), (false, 5), (true, 1), (false, 7), (false, 8), (true, 2), (false, 10), (false, 11), (false, 12), (false, 13), (false, 14), (false, 15), (true, 3), (true, 4), (false, 18), (false, 19), (false, 20), (true, 5), (true, 6), (true, 7), (false, 24), (false, 25), (false, 26), (false, 27), (false, 28), (false, 29), (false, 30), (false, 31), (false, 32), (false, 33), (false, 34), (false, 35), (false, 36), (false, 37), (false, 38), (false, 39), (false, 40), (false, 41), (false, 42), (false, 43), (false, 44), (false, 45), (false, 46), (false, 47), (false, 48), (false, 49), (false, 50), (false, 51), (false, 52), (false, 53), (false, 54), (false, 55), (false, 56), (false, 57), (false, 58), (false, 59), (false, 60), (false, 61), (false, 62), (false, 63), (false, 64), (false, 65), (false, 66), (false, 67), (false, 68), (false, 69), (true, 8)] rfl (by decide) rfl rfl [] rfl (Nat.le_of_ble_eq_true rfl) ⟨show cells + 1 ≤ 601024 by omega, show slots + 6 ≤ 7293034 by omega⟩ dL_law_888 891 (cells + 1) (slots + 6) rfl ⟨rfl, rfl⟩ ?_
    refine vv_istore C [(5, .int (sel (Sum.inl k : Nat ⊕ (Int32 × (Nat → Int32) × Int32 × (Nat → Int32) × (Nat → Int32))) kcL_addCastaway (fun _ => 0))), (0, .ref b), (1, .ref (X 0)), (2, .ref m0), (3, .ref o), (4, .int v4)] dL_law_891 (by decide) rfl 893 rfl ?_
    refine vv_aload_n C dL_law_893 rfl 3 rfl 894 rfl ?_
    refine vv_aload_n C dL_law_894 rfl 1 rfl 895 rfl ?_
    refine vv_iload C dL_law_895 5 rfl 897 rfl ?_
    refine vv_iconst C (v := 1) dL_law_897 (by decide) 898 rfl ?_
    refine vv_iadd C dL_law_898 899 rfl ?_
    refine vv_sld C XS (hin 1 (by decide)) dL_law_899 900 rfl ?_
    refine vv_callVi C (fun l => mt_X7_addCastaway l D c (mA m0 M) (S 60 0) (S 61 0) (S 63 0) (S 64 0) (S 65 0) (S 67 0) (S 68) (S 71) (xs (v4 + 1).toNatClampNeg) q' hB) gL_law_X7_addCastaway rfl rfl rfl yd_X7_addCastaway ⟨Nat.le_of_ble_eq_true rfl, Nat.le_of_ble_eq_true rfl⟩ [57, 60, 63] rfl (by decide) 0 rfl rfl (wLaw c X W R B K Q T TB TK TQ Y m0 M o (up (up (up S 60 (fun _ => q'.2.1)) 67 (fun _ => q'.2.2.1)) 71 q'.2.2.2) f) [(false, 0), (false, 1), (false, 2), (false, 3), (false, 4), (false, 5), (false, 6), (false, 7), (false, 8), (false, 9), (false, 10), (false, 11), (false, 12), (false, 13), (false, 14), (false, 15), (false, 16), (false, 17), (false, 18), (false, 19), (false, 20), (false, 21), (false, 22), (false, 23), (false, 24), (false, 25), (false, 26), (false, 27), (false, 28), (false, 29), (false, 30), (false, 31), (false, 32), (false, 33), (false, 34), (false, 35), (false, 36), (false, 37), (false, 38), (false, 39), (false, 40), (false, 41), (false, 42), (false, 43), (false, 44), (false, 45), (false, 46), (false, 47), (false, 48), (false, 49), (false, 50), (false, 51), (false, 52), (false, 53), (false, 54), (false, 55), (false, 56), (true, 0), (false, 58), (false, 59), (true, 1), (false, 61), (false, 62), (true, 2), (false, 64), (false, 65), (false, 66), (false, 67), (false, 68), (false, 69), (false, 70)] rfl (by decide) rfl rfl [] rfl (Nat.le_of_ble_eq_true rfl) ⟨show cells + 1 + 0 ≤ 601024 by omega, show slots + 6 + 0 ≤ 7293034 by omega⟩ dL_law_900 903 (cells + 1 + 0) (slots + 6 + 0) rfl ⟨rfl, rfl⟩ ?_
    refine vv_istore C [(6, .int q'.1), (5, .int (sel (Sum.inl k : Nat ⊕ (Int32 × (Nat → Int32) × Int32 × (Nat → Int32) × (Nat → Int32))) kcL_addCastaway (fun _ => 0))), (0, .ref b), (1, .ref (X 0)), (2, .ref m0), (3, .ref o), (4, .int v4)] dL_law_903 (by decide) rfl 905 rfl ?_
    refine vv_aload_n C dL_law_905 rfl 4 rfl 906 rfl ?_
    refine vv_callVi C (fun l => mt_X7_thrown l D c (mA m0 M) ((up (up (up S 60 (fun _ => q'.2.1)) 67 (fun _ => q'.2.2.1)) 71 q'.2.2.2) 60 0) ((up (up (up S 60 (fun _ => q'.2.1)) 67 (fun _ => q'.2.2.1)) 71 q'.2.2.2) 61 0) ((up (up (up S 60 (fun _ => q'.2.1)) 67 (fun _ => q'.2.2.1)) 71 q'.2.2.2) 63 0) ((up (up (up S 60 (fun _ => q'.2.1)) 67 (fun _ => q'.2.2.1)) 71 q'.2.2.2) 64 0) ((up (up (up S 60 (fun _ => q'.2.1)) 67 (fun _ => q'.2.2.1)) 71 q'.2.2.2) 65 0) ((up (up (up S 60 (fun _ => q'.2.1)) 67 (fun _ => q'.2.2.1)) 71 q'.2.2.2) 67 0) q'.2.1 rfl) gL_law_X7_thrown rfl rfl rfl yd_X7_thrown ⟨Nat.le_of_ble_eq_true rfl, Nat.le_of_ble_eq_true rfl⟩ [57] rfl (by decide) 0 rfl rfl (wLaw c X W R B K Q T TB TK TQ Y m0 M o (up (up (up S 60 (fun _ => q'.2.1)) 67 (fun _ => q'.2.2.1)) 71 q'.2.2.2) f) [(false, 0), (false, 1), (false, 2), (false, 3), (false, 4), (false, 5), (false, 6), (false, 7), (false, 8), (false, 9), (false, 10), (false, 11), (false, 12), (false, 13), (false, 14), (false, 15), (false, 16), (false, 17), (false, 18), (false, 19), (false, 20), (false, 21), (false, 22), (false, 23), (false, 24), (false, 25), (false, 26), (false, 27), (false, 28), (false, 29), (false, 30), (false, 31), (false, 32), (false, 33), (false, 34), (false, 35), (false, 36), (false, 37), (false, 38), (false, 39), (false, 40), (false, 41), (false, 42), (false, 43), (false, 44), (false, 45), (false, 46), (false, 47), (false, 48), (false, 49), (false, 50), (false, 51), (false, 52), (false, 53), (false, 54), (false, 55), (false, 56), (true, 0), (false, 58), (false, 59), (false, 60), (false, 61), (false, 62), (false, 63), (false, 64), (false, 65), (false, 66), (false, 67), (false, 68), (false, 69), (false, 70)] rfl (by decide) rfl rfl [] rfl (Nat.le_of_ble_eq_true rfl) ⟨show cells + 1 + 0 ≤ 601024 by omega, show slots + 6 + 0 ≤ 7293034 by omega⟩ dL_law_906 909 (cells + 1 + 0) (slots + 6 + 0) rfl ⟨rfl, rfl⟩ ?_
    refine vv_iload C dL_law_909 1 rfl 911 rfl ?_
    refine vv_icmp_eq C 916 914 dL_law_911 (by decide) rfl (fun _ => ?_) (fun hc => absurd hthr hc)
    refine vv_iload C dL_law_916 1 rfl 918 rfl ?_
    refine vv_if_ne C 933 921 dL_law_918 (by decide) rfl (fun _ => ?_) (fun hc => absurd hc hk0)
    refine vv_goto C 1623 dL_law_933 (by decide) ?_
    refine vv_lv [2, 3, 4, 5, 6] [(0, .ref b), (1, .ref (X 0)), (2, .ref m0), (3, .ref o), (4, .int v4)] rfl ?_
    refine vv_cs (k := cells + (1 + 0)) (n := slots + (6 + 0)) (by omega) (by omega) ?_
    exact K1 _ _ _ _ _ hRel ⟨by omega, by omega, Or.inl (by omega)⟩
  · obtain ⟨hret, hRel⟩ := hval u rfl
    refine vv_aload_n C dL_law_880 rfl 1 rfl 881 rfl ?_
    refine vv_aload_n C dL_law_881 rfl 0 rfl 882 rfl ?_
    refine vv_iload C dL_law_882 4 rfl 884 rfl ?_
    refine vv_iconst C (v := 1) dL_law_884 (by decide) 885 rfl ?_
    refine vv_iadd C dL_law_885 886 rfl ?_
    refine vv_sld C XS (hin 1 (by decide)) dL_law_886 887 rfl ?_
    refine vv_aload_n C dL_law_887 rfl 3 rfl 888 rfl ?_
    refine vv_callW C XW (fun l hfl => mt_L_addCastaway l hfl D c X W R B K Q T Y (S 0 0) (S 10 0) (S 11 0) (S 23 0) (S 18) (S 19) (S 26 0) (S 24) (S 25) (xs (v4 + 1).toNatClampNeg) o f (Sum.inr u) hA (fun k2 e2 => nomatch e2)) gL_law_L_addCastaway rfl rfl rfl yd_L_addCastaway ⟨Nat.le_of_ble_eq_true rfl, Nat.le_of_ble_eq_true rfl⟩ [0, 6, 9, 16, 17, 21, 22, 23, 70] rfl (by decide) (wLaw c X W R B K Q T TB TK TQ Y m0 M o (up (up (up (up S 18 u.2.1) 26 (fun _ => u.2.2.1)) 24 u.2.2.2.1) 25 u.2.2.2.2) (vp_updL f 0 u.1.toInt64)) [(true, 0), (false, 1), (false, 2), (false, 3), (false, 4), (false, 5), (true, 1), (false, 7), (false, 8), (true, 2), (false, 10), (false, 11), (false, 12), (false, 13), (false, 14), (false, 15), (true, 3), (true, 4), (false, 18), (false, 19), (false, 20), (true, 5), (true, 6), (true, 7), (false, 24), (false, 25), (false, 26), (false, 27), (false, 28), (false, 29), (false, 30), (false, 31), (false, 32), (false, 33), (false, 34), (false, 35), (false, 36), (false, 37), (false, 38), (false, 39), (false, 40), (false, 41), (false, 42), (false, 43), (false, 44), (false, 45), (false, 46), (false, 47), (false, 48), (false, 49), (false, 50), (false, 51), (false, 52), (false, 53), (false, 54), (false, 55), (false, 56), (false, 57), (false, 58), (false, 59), (false, 60), (false, 61), (false, 62), (false, 63), (false, 64), (false, 65), (false, 66), (false, 67), (false, 68), (false, 69), (true, 8)] rfl (by decide) rfl rfl [] rfl (Nat.le_of_ble_eq_true rfl) ⟨show cells + 1 ≤ 601024 by omega, show slots + 6 ≤ 7293034 by omega⟩ dL_law_888 891 (cells + 1) (slots + 6) rfl ⟨rfl, rfl⟩ ?_
    refine vv_istore C [(5, .int (sel (Sum.inr u : Nat ⊕ (Int32 × (Nat → Int32) × Int32 × (Nat → Int32) × (Nat → Int32))) kcL_addCastaway (fun _ => 0))), (0, .ref b), (1, .ref (X 0)), (2, .ref m0), (3, .ref o), (4, .int v4)] dL_law_891 (by decide) rfl 893 rfl ?_
    refine vv_aload_n C dL_law_893 rfl 3 rfl 894 rfl ?_
    refine vv_aload_n C dL_law_894 rfl 1 rfl 895 rfl ?_
    refine vv_iload C dL_law_895 5 rfl 897 rfl ?_
    refine vv_iconst C (v := 1) dL_law_897 (by decide) 898 rfl ?_
    refine vv_iadd C dL_law_898 899 rfl ?_
    refine vv_sld C XS (hin 1 (by decide)) dL_law_899 900 rfl ?_
    refine vv_callVi C (fun l => mt_X7_addCastaway l D c (mA m0 M) (S 60 0) (S 61 0) (S 63 0) (S 64 0) (S 65 0) (S 67 0) (S 68) (S 71) (xs (v4 + 1).toNatClampNeg) q' hB) gL_law_X7_addCastaway rfl rfl rfl yd_X7_addCastaway ⟨Nat.le_of_ble_eq_true rfl, Nat.le_of_ble_eq_true rfl⟩ [57, 60, 63] rfl (by decide) 0 rfl rfl (wLaw c X W R B K Q T TB TK TQ Y m0 M o (up (up (up (up (up (up (up S 18 u.2.1) 26 (fun _ => u.2.2.1)) 24 u.2.2.2.1) 25 u.2.2.2.2) 60 (fun _ => q'.2.1)) 67 (fun _ => q'.2.2.1)) 71 q'.2.2.2) (vp_updL f 0 u.1.toInt64)) [(false, 0), (false, 1), (false, 2), (false, 3), (false, 4), (false, 5), (false, 6), (false, 7), (false, 8), (false, 9), (false, 10), (false, 11), (false, 12), (false, 13), (false, 14), (false, 15), (false, 16), (false, 17), (false, 18), (false, 19), (false, 20), (false, 21), (false, 22), (false, 23), (false, 24), (false, 25), (false, 26), (false, 27), (false, 28), (false, 29), (false, 30), (false, 31), (false, 32), (false, 33), (false, 34), (false, 35), (false, 36), (false, 37), (false, 38), (false, 39), (false, 40), (false, 41), (false, 42), (false, 43), (false, 44), (false, 45), (false, 46), (false, 47), (false, 48), (false, 49), (false, 50), (false, 51), (false, 52), (false, 53), (false, 54), (false, 55), (false, 56), (true, 0), (false, 58), (false, 59), (true, 1), (false, 61), (false, 62), (true, 2), (false, 64), (false, 65), (false, 66), (false, 67), (false, 68), (false, 69), (false, 70)] rfl (by decide) rfl rfl [] rfl (Nat.le_of_ble_eq_true rfl) ⟨show cells + 1 + 0 ≤ 601024 by omega, show slots + 6 + 0 ≤ 7293034 by omega⟩ dL_law_900 903 (cells + 1 + 0) (slots + 6 + 0) rfl ⟨rfl, rfl⟩ ?_
    refine vv_istore C [(6, .int q'.1), (5, .int (sel (Sum.inr u : Nat ⊕ (Int32 × (Nat → Int32) × Int32 × (Nat → Int32) × (Nat → Int32))) kcL_addCastaway (fun _ => 0))), (0, .ref b), (1, .ref (X 0)), (2, .ref m0), (3, .ref o), (4, .int v4)] dL_law_903 (by decide) rfl 905 rfl ?_
    refine vv_aload_n C dL_law_905 rfl 4 rfl 906 rfl ?_
    refine vv_callVi C (fun l => mt_X7_thrown l D c (mA m0 M) ((up (up (up (up (up (up (up S 18 u.2.1) 26 (fun _ => u.2.2.1)) 24 u.2.2.2.1) 25 u.2.2.2.2) 60 (fun _ => q'.2.1)) 67 (fun _ => q'.2.2.1)) 71 q'.2.2.2) 60 0) ((up (up (up (up (up (up (up S 18 u.2.1) 26 (fun _ => u.2.2.1)) 24 u.2.2.2.1) 25 u.2.2.2.2) 60 (fun _ => q'.2.1)) 67 (fun _ => q'.2.2.1)) 71 q'.2.2.2) 61 0) ((up (up (up (up (up (up (up S 18 u.2.1) 26 (fun _ => u.2.2.1)) 24 u.2.2.2.1) 25 u.2.2.2.2) 60 (fun _ => q'.2.1)) 67 (fun _ => q'.2.2.1)) 71 q'.2.2.2) 63 0) ((up (up (up (up (up (up (up S 18 u.2.1) 26 (fun _ => u.2.2.1)) 24 u.2.2.2.1) 25 u.2.2.2.2) 60 (fun _ => q'.2.1)) 67 (fun _ => q'.2.2.1)) 71 q'.2.2.2) 64 0) ((up (up (up (up (up (up (up S 18 u.2.1) 26 (fun _ => u.2.2.1)) 24 u.2.2.2.1) 25 u.2.2.2.2) 60 (fun _ => q'.2.1)) 67 (fun _ => q'.2.2.1)) 71 q'.2.2.2) 65 0) ((up (up (up (up (up (up (up S 18 u.2.1) 26 (fun _ => u.2.2.1)) 24 u.2.2.2.1) 25 u.2.2.2.2) 60 (fun _ => q'.2.1)) 67 (fun _ => q'.2.2.1)) 71 q'.2.2.2) 67 0) q'.2.1 rfl) gL_law_X7_thrown rfl rfl rfl yd_X7_thrown ⟨Nat.le_of_ble_eq_true rfl, Nat.le_of_ble_eq_true rfl⟩ [57] rfl (by decide) 0 rfl rfl (wLaw c X W R B K Q T TB TK TQ Y m0 M o (up (up (up (up (up (up (up S 18 u.2.1) 26 (fun _ => u.2.2.1)) 24 u.2.2.2.1) 25 u.2.2.2.2) 60 (fun _ => q'.2.1)) 67 (fun _ => q'.2.2.1)) 71 q'.2.2.2) (vp_updL f 0 u.1.toInt64)) [(false, 0), (false, 1), (false, 2), (false, 3), (false, 4), (false, 5), (false, 6), (false, 7), (false, 8), (false, 9), (false, 10), (false, 11), (false, 12), (false, 13), (false, 14), (false, 15), (false, 16), (false, 17), (false, 18), (false, 19), (false, 20), (false, 21), (false, 22), (false, 23), (false, 24), (false, 25), (false, 26), (false, 27), (false, 28), (false, 29), (false, 30), (false, 31), (false, 32), (false, 33), (false, 34), (false, 35), (false, 36), (false, 37), (false, 38), (false, 39), (false, 40), (false, 41), (false, 42), (false, 43), (false, 44), (false, 45), (false, 46), (false, 47), (false, 48), (false, 49), (false, 50), (false, 51), (false, 52), (false, 53), (false, 54), (false, 55), (false, 56), (true, 0), (false, 58), (false, 59), (false, 60), (false, 61), (false, 62), (false, 63), (false, 64), (false, 65), (false, 66), (false, 67), (false, 68), (false, 69), (false, 70)] rfl (by decide) rfl rfl [] rfl (Nat.le_of_ble_eq_true rfl) ⟨show cells + 1 + 0 ≤ 601024 by omega, show slots + 6 + 0 ≤ 7293034 by omega⟩ dL_law_906 909 (cells + 1 + 0) (slots + 6 + 0) rfl ⟨rfl, rfl⟩ ?_
    refine vv_iload C dL_law_909 1 rfl 911 rfl ?_
    refine vv_icmp_eq C 916 914 dL_law_911 (by decide) rfl (fun _ => ?_) (fun hc => absurd hthr hc)
    refine vv_iload C dL_law_916 1 rfl 918 rfl ?_
    refine vv_if_ne C 933 921 dL_law_918 (by decide) rfl (fun hc => absurd rfl hc) (fun _ => ?_)
    refine vv_aload_n C dL_law_921 rfl 5 rfl 922 rfl ?_
    refine vv_iconst C (v := 0) dL_law_922 (by decide) 923 rfl ?_
    refine vv_lald C (q0 := 70) rfl (inB_t (by decide)) dL_law_923 924 rfl ?_
    refine vv_iload C dL_law_924 0 rfl 926 rfl ?_
    refine vv_i2l C dL_law_926 927 rfl ?_
    refine vv_lcmp C dL_law_927 928 rfl ?_
    refine vv_if_eq C 933 931 dL_law_928 (by decide) rfl (fun _ => ?_) (fun hc => absurd (by rw [hret]; exact lcmp_self _) hc)
    refine vv_goto C 1623 dL_law_933 (by decide) ?_
    refine vv_lv [2, 3, 4, 5, 6] [(0, .ref b), (1, .ref (X 0)), (2, .ref m0), (3, .ref o), (4, .int v4)] rfl ?_
    refine vv_cs (k := cells + (1 + 0)) (n := slots + (6 + 0)) (by omega) (by omega) ?_
    exact K1 _ _ _ _ _ hRel ⟨by omega, by omega, Or.inl (by omega)⟩
