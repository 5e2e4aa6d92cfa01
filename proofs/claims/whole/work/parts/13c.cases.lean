theorem lcmp_self (x : Int64) : lg_cmp x x = 0 := by
  simp [lg_cmp]
set_option maxHeartbeats 4000000 in
set_option maxRecDepth 100000 in
theorem law_addWater {g : CtxT} {D : va_G} {c : Nat → ClassId} {b L : Nat} {xs : Nat → Int32} (C : CX g D c cL_law RL wsL_law 9 room_1) (XS : SXc b L xs g) (XW : WXL g) (X W R B K Q T TB TK TQ Y : Nat → Nat) (m0 : Nat) (M : Nat → Nat) (o : Nat) (S : Nat → Nat → Int32) (f : Nat → Int64) (v4 : Int32) (hin : ∀ j : Nat, j < 8 → vp_in (v4 + nI j) L) (hR : Rel S) (cells slots : Nat) (hroom : cells + 67 ≤ 601024 ∧ slots + 14262 ≤ 7293034)
    (K1 : ∀ (S' : Nat → Nat → Int32) (f' : Nat → Int64) (M' : Nat → Nat) (a b' : Nat), Rel S' → Cost S S' a b' → VV g D 9 (cells + a) (slots + b') (wLaw c X W R B K Q T TB TK TQ Y m0 M' o S' f') [(0, .ref b), (1, .ref (X 0)), (2, .ref m0), (3, .ref o), (4, .int v4)] 1623 []) : VV g D 9 cells slots (wLaw c X W R B K Q T TB TK TQ Y m0 M o S f) [(0, .ref b), (1, .ref (X 0)), (2, .ref m0), (3, .ref o), (4, .int v4)] 144 [] := by
  obtain ⟨q, q', hA, hB, hthr, hexc, hval⟩ := sim_addWater S (xs (v4 + 1).toNatClampNeg) (xs (v4 + 2).toNatClampNeg) (xs (v4 + 3).toNatClampNeg) (xs (v4 + 4).toNatClampNeg) (xs (v4 + 5).toNatClampNeg) (xs (v4 + 6).toNatClampNeg) (xs (v4 + 7).toNatClampNeg) hR
  rcases q with k | u
  · obtain ⟨hk, hRel⟩ := hexc k rfl
    have hk0 : ¬ (sel (Sum.inl k : Nat ⊕ (Int32 × Int32 × (Nat → Int32) × (Nat → Int32) × (Nat → Int32) × (Nat → Int32))) kcL_addWater (fun _ => 0)) = 0 := by
      rcases (show k = 1 ∨ k = 2 by simpa using hk) with rfl | rfl <;> decide
    refine vv_aload_n C dL_law_144 rfl 1 rfl 145 rfl ?_
    refine vv_aload_n C dL_law_145 rfl 0 rfl 146 rfl ?_
    refine vv_iload C dL_law_146 4 rfl 148 rfl ?_
    refine vv_iconst C (v := 1) dL_law_148 (by decide) 149 rfl ?_
    refine vv_iadd C dL_law_149 150 rfl ?_
    refine vv_sld C XS (hin 1 (by decide)) dL_law_150 151 rfl ?_
    refine vv_aload_n C dL_law_151 rfl 0 rfl 152 rfl ?_
    refine vv_iload C dL_law_152 4 rfl 154 rfl ?_
    refine vv_iconst C (v := 2) dL_law_154 (by decide) 155 rfl ?_
    refine vv_iadd C dL_law_155 156 rfl ?_
    refine vv_sld C XS (hin 2 (by decide)) dL_law_156 157 rfl ?_
    refine vv_aload_n C dL_law_157 rfl 0 rfl 158 rfl ?_
    refine vv_iload C dL_law_158 4 rfl 160 rfl ?_
    refine vv_iconst C (v := 3) dL_law_160 (by decide) 161 rfl ?_
    refine vv_iadd C dL_law_161 162 rfl ?_
    refine vv_sld C XS (hin 3 (by decide)) dL_law_162 163 rfl ?_
    refine vv_aload_n C dL_law_163 rfl 0 rfl 164 rfl ?_
    refine vv_iload C dL_law_164 4 rfl 166 rfl ?_
    refine vv_iconst C (v := 4) dL_law_166 (by decide) 167 rfl ?_
    refine vv_iadd C dL_law_167 168 rfl ?_
    refine vv_sld C XS (hin 4 (by decide)) dL_law_168 169 rfl ?_
    refine vv_aload_n C dL_law_169 rfl 0 rfl 170 rfl ?_
    refine vv_iload C dL_law_170 4 rfl 172 rfl ?_
    refine vv_iconst C (v := 5) dL_law_172 (by decide) 173 rfl ?_
    refine vv_iadd C dL_law_173 174 rfl ?_
    refine vv_sld C XS (hin 5 (by decide)) dL_law_174 175 rfl ?_
    refine vv_aload_n C dL_law_175 rfl 0 rfl 176 rfl ?_
    refine vv_iload C dL_law_176 4 rfl 178 rfl ?_
    refine vv_bipush C (v := 6) dL_law_178 (by decide) 180 rfl ?_
    refine vv_iadd C dL_law_180 181 rfl ?_
    refine vv_sld C XS (hin 6 (by decide)) dL_law_181 182 rfl ?_
    refine vv_aload_n C dL_law_182 rfl 0 rfl 183 rfl ?_
    refine vv_iload C dL_law_183 4 rfl 185 rfl ?_
    refine vv_bipush C (v := 7) dL_law_185 (by decide) 187 rfl ?_
    refine vv_iadd C dL_law_187 188 rfl ?_
    refine vv_sld C XS (hin 7 (by decide)) dL_law_188 189 rfl ?_
    refine vv_aload_n C dL_law_189 rfl 3 rfl 190 rfl ?_
    refine vv_callW C XW (fun l hfl => mt_L_addWater l hfl D c X W R T Y (S 0 0) (S 5 0) (S 6 0) (S 7 0) (S 1) (S 2) (S 3) (S 4) (xs (v4 + 1).toNatClampNeg) (xs (v4 + 2).toNatClampNeg) (xs (v4 + 3).toNatClampNeg) (xs (v4 + 4).toNatClampNeg) (xs (v4 + 5).toNatClampNeg) (xs (v4 + 6).toNatClampNeg) (xs (v4 + 7).toNatClampNeg) o f (Sum.inl k) hA (fun k2 e2 => by cases e2; exact hk)) gL_law_L_addWater rfl rfl rfl yd_L_addWater ⟨Nat.le_of_ble_eq_true rfl, Nat.le_of_ble_eq_true rfl⟩ [0, 1, 2, 3, 4, 5, 70] rfl (by decide) (wLaw c X W R B K Q T TB TK TQ Y m0 M o S f) [(true, 0), (true, 1), (true, 2), (true, 3), (true, 4), (true, 5), (false, 6), (false, 7), (false, 8), (false, 9), (false, 10), (false, 11), (false, 12), (false, 13), (false, 14), (false, 15), (false, 16), (false, 17), (false, 18), (false, 19), (false, 20), (false, 21), (false, 22), (false, 23), (false, 24), (false, 25), (false, 26), (false, 27), (false, 28), (false, 29), (false, 30), (false, 31), (false, 32), (false, 33), (false, 34), (false, 35), (false, 36), (false, 37), (false, 38), (false, 39), (false, 40), (false, 41), (false, 42), (false, 43), (false, 44), (false, 45), (false, 46), (false, 47), (false, 48), (false, 49), (false, 50), (false, 51), (false, 52), (false, 53), (false, 54), (false, 55), (false, 56), (false, 57), (false, 58), (false, 59), (false, 60), (false, 61), (false, 62), (false, 63), (false, 64), (false, 65), (false, 66), (false, 67), (false, 68), (false, 69), (true, 6)] rfl (by decide) rfl rfl [] rfl (Nat.le_of_ble_eq_true rfl) ⟨show cells + 1 ≤ 601024 by omega, show slots + 6 ≤ 7293034 by omega⟩ dL_law_190 193 (cells + 1) (slots + 6) rfl ⟨rfl, rfl⟩ ?_
    refine vv_istore C [(5, .int (sel (Sum.inl k : Nat ⊕ (Int32 × Int32 × (Nat → Int32) × (Nat → Int32) × (Nat → Int32) × (Nat → Int32))) kcL_addWater (fun _ => 0))), (0, .ref b), (1, .ref (X 0)), (2, .ref m0), (3, .ref o), (4, .int v4)] dL_law_193 (by decide) rfl 195 rfl ?_
    refine vv_aload_n C dL_law_195 rfl 3 rfl 196 rfl ?_
    refine vv_aload_n C dL_law_196 rfl 1 rfl 197 rfl ?_
    refine vv_iload C dL_law_197 5 rfl 199 rfl ?_
    refine vv_iconst C (v := 1) dL_law_199 (by decide) 200 rfl ?_
    refine vv_iadd C dL_law_200 201 rfl ?_
    refine vv_sld C XS (hin 1 (by decide)) dL_law_201 202 rfl ?_
    refine vv_aload_n C dL_law_202 rfl 1 rfl 203 rfl ?_
    refine vv_iload C dL_law_203 5 rfl 205 rfl ?_
    refine vv_iconst C (v := 2) dL_law_205 (by decide) 206 rfl ?_
    refine vv_iadd C dL_law_206 207 rfl ?_
    refine vv_sld C XS (hin 2 (by decide)) dL_law_207 208 rfl ?_
    refine vv_aload_n C dL_law_208 rfl 1 rfl 209 rfl ?_
    refine vv_iload C dL_law_209 5 rfl 211 rfl ?_
    refine vv_iconst C (v := 3) dL_law_211 (by decide) 212 rfl ?_
    refine vv_iadd C dL_law_212 213 rfl ?_
    refine vv_sld C XS (hin 3 (by decide)) dL_law_213 214 rfl ?_
    refine vv_aload_n C dL_law_214 rfl 1 rfl 215 rfl ?_
    refine vv_iload C dL_law_215 5 rfl 217 rfl ?_
    refine vv_iconst C (v := 4) dL_law_217 (by decide) 218 rfl ?_
    refine vv_iadd C dL_law_218 219 rfl ?_
    refine vv_sld C XS (hin 4 (by decide)) dL_law_219 220 rfl ?_
    refine vv_aload_n C dL_law_220 rfl 1 rfl 221 rfl ?_
    refine vv_iload C dL_law_221 5 rfl 223 rfl ?_
    refine vv_iconst C (v := 5) dL_law_223 (by decide) 224 rfl ?_
    refine vv_iadd C dL_law_224 225 rfl ?_
    refine vv_sld C XS (hin 5 (by decide)) dL_law_225 226 rfl ?_
    refine vv_aload_n C dL_law_226 rfl 1 rfl 227 rfl ?_
    refine vv_iload C dL_law_227 5 rfl 229 rfl ?_
    refine vv_bipush C (v := 6) dL_law_229 (by decide) 231 rfl ?_
    refine vv_iadd C dL_law_231 232 rfl ?_
    refine vv_sld C XS (hin 6 (by decide)) dL_law_232 233 rfl ?_
    refine vv_aload_n C dL_law_233 rfl 1 rfl 234 rfl ?_
    refine vv_iload C dL_law_234 5 rfl 236 rfl ?_
    refine vv_bipush C (v := 7) dL_law_236 (by decide) 238 rfl ?_
    refine vv_iadd C dL_law_238 239 rfl ?_
    refine vv_sld C XS (hin 7 (by decide)) dL_law_239 240 rfl ?_
    refine vv_callVi C (fun l => mt_X7_addWater l D c (mA m0 M) (S 60 0) (S 61 0) (S 63 0) (S 64 0) (S 65 0) (S 67 0) (S 62) (xs (v4 + 1).toNatClampNeg) (xs (v4 + 2).toNatClampNeg) (xs (v4 + 3).toNatClampNeg) (xs (v4 + 4).toNatClampNeg) (xs (v4 + 5).toNatClampNeg) (xs (v4 + 6).toNatClampNeg) (xs (v4 + 7).toNatClampNeg) q' hB) gL_law_X7_addWater rfl rfl rfl yd_X7_addWater ⟨Nat.le_of_ble_eq_true rfl, Nat.le_of_ble_eq_true rfl⟩ [57, 58] rfl (by decide) 0 rfl rfl (wLaw c X W R B K Q T TB TK TQ Y m0 M o (up (up (up S 60 (fun _ => q'.2.1)) 61 (fun _ => q'.2.2.1)) 62 q'.2.2.2) f) [(false, 0), (false, 1), (false, 2), (false, 3), (false, 4), (false, 5), (false, 6), (false, 7), (false, 8), (false, 9), (false, 10), (false, 11), (false, 12), (false, 13), (false, 14), (false, 15), (false, 16), (false, 17), (false, 18), (false, 19), (false, 20), (false, 21), (false, 22), (false, 23), (false, 24), (false, 25), (false, 26), (false, 27), (false, 28), (false, 29), (false, 30), (false, 31), (false, 32), (false, 33), (false, 34), (false, 35), (false, 36), (false, 37), (false, 38), (false, 39), (false, 40), (false, 41), (false, 42), (false, 43), (false, 44), (false, 45), (false, 46), (false, 47), (false, 48), (false, 49), (false, 50), (false, 51), (false, 52), (false, 53), (false, 54), (false, 55), (false, 56), (true, 0), (true, 1), (false, 59), (false, 60), (false, 61), (false, 62), (false, 63), (false, 64), (false, 65), (false, 66), (false, 67), (false, 68), (false, 69), (false, 70)] rfl (by decide) rfl rfl [] rfl (Nat.le_of_ble_eq_true rfl) ⟨show cells + 1 + 1 ≤ 601024 by omega, show slots + 6 + 7 ≤ 7293034 by omega⟩ dL_law_240 243 (cells + 1 + 1) (slots + 6 + 7) rfl ⟨rfl, rfl⟩ ?_
    refine vv_istore C [(6, .int q'.1), (5, .int (sel (Sum.inl k : Nat ⊕ (Int32 × Int32 × (Nat → Int32) × (Nat → Int32) × (Nat → Int32) × (Nat → Int32))) kcL_addWater (fun _ => 0))), (0, .ref b), (1, .ref (X 0)), (2, .ref m0), (3, .ref o), (4, .int v4)] dL_law_243 (by decide) rfl 245 rfl ?_
    refine vv_aload_n C dL_law_245 rfl 4 rfl 246 rfl ?_
    refine vv_callVi C (fun l => mt_X7_thrown l D c (mA m0 M) ((up (up (up S 60 (fun _ => q'.2.1)) 61 (fun _ => q'.2.2.1)) 62 q'.2.2.2) 60 0) ((up (up (up S 60 (fun _ => q'.2.1)) 61 (fun _ => q'.2.2.1)) 62 q'.2.2.2) 61 0) ((up (up (up S 60 (fun _ => q'.2.1)) 61 (fun _ => q'.2.2.1)) 62 q'.2.2.2) 63 0) ((up (up (up S 60 (fun _ => q'.2.1)) 61 (fun _ => q'.2.2.1)) 62 q'.2.2.2) 64 0) ((up (up (up S 60 (fun _ => q'.2.1)) 61 (fun _ => q'.2.2.1)) 62 q'.2.2.2) 65 0) ((up (up (up S 60 (fun _ => q'.2.1)) 61 (fun _ => q'.2.2.1)) 62 q'.2.2.2) 67 0) q'.2.1 rfl) gL_law_X7_thrown rfl rfl rfl yd_X7_thrown ⟨Nat.le_of_ble_eq_true rfl, Nat.le_of_ble_eq_true rfl⟩ [57] rfl (by decide) 0 rfl rfl (wLaw c X W R B K Q T TB TK TQ Y m0 M o (up (up (up S 60 (fun _ => q'.2.1)) 61 (fun _ => q'.2.2.1)) 62 q'.2.2.2) f) [(false, 0), (false, 1), (false, 2), (false, 3), (false, 4), (false, 5), (false, 6), (false, 7), (false, 8), (false, 9), (false, 10), (false, 11), (false, 12), (false, 13), (false, 14), (false, 15), (false, 16), (false, 17), (false, 18), (false, 19), (false, 20), (false, 21), (false, 22), (false, 23), (false, 24), (false, 25), (false, 26), (false, 27), (false, 28), (false, 29), (false, 30), (false, 31), (false, 32), (false, 33), (false, 34), (false, 35), (false, 36), (false, 37), (false, 38), (false, 39), (false, 40), (false, 41), (false, 42), (false, 43), (false, 44), (false, 45), (false, 46), (false, 47), (false, 48), (false, 49), (false, 50), (false, 51), (false, 52), (false, 53), (false, 54), (false, 55), (false, 56), (true, 0), (false, 58), (false, 59), (false, 60), (false, 61), (false, 62), (false, 63), (false, 64), (false, 65), (false, 66), (false, 67), (false, 68), (false, 69), (false, 70)] rfl (by decide) rfl rfl [] rfl (Nat.le_of_ble_eq_true rfl) ⟨show cells + 1 + 1 ≤ 601024 by omega, show slots + 6 + 7 ≤ 7293034 by omega⟩ dL_law_246 249 (cells + 1 + 1) (slots + 6 + 7) rfl ⟨rfl, rfl⟩ ?_
    refine vv_iload C dL_law_249 1 rfl 251 rfl ?_
    refine vv_icmp_eq C 256 254 dL_law_251 (by decide) rfl (fun _ => ?_) (fun hc => absurd hthr hc)
    refine vv_iload C dL_law_256 1 rfl 258 rfl ?_
    refine vv_if_ne C 273 261 dL_law_258 (by decide) rfl (fun _ => ?_) (fun hc => absurd hc hk0)
    refine vv_goto C 1623 dL_law_273 (by decide) ?_
    refine vv_lv [2, 3, 4, 5, 6] [(0, .ref b), (1, .ref (X 0)), (2, .ref m0), (3, .ref o), (4, .int v4)] rfl ?_
    refine vv_cs (k := cells + (1 + 1)) (n := slots + (6 + 7)) (by omega) (by omega) ?_
    exact K1 _ _ _ _ _ hRel ⟨by omega, by omega, Or.inr ⟨rfl, fun h0 => by omega⟩⟩
  · obtain ⟨hret, hRel⟩ := hval u rfl
    refine vv_aload_n C dL_law_144 rfl 1 rfl 145 rfl ?_
    refine vv_aload_n C dL_law_145 rfl 0 rfl 146 rfl ?_
    refine vv_iload C dL_law_146 4 rfl 148 rfl ?_
    refine vv_iconst C (v := 1) dL_law_148 (by decide) 149 rfl ?_
    refine vv_iadd C dL_law_149 150 rfl ?_
    refine vv_sld C XS (hin 1 (by decide)) dL_law_150 151 rfl ?_
    refine vv_aload_n C dL_law_151 rfl 0 rfl 152 rfl ?_
    refine vv_iload C dL_law_152 4 rfl 154 rfl ?_
    refine vv_iconst C (v := 2) dL_law_154 (by decide) 155 rfl ?_
    refine vv_iadd C dL_law_155 156 rfl ?_
    refine vv_sld C XS (hin 2 (by decide)) dL_law_156 157 rfl ?_
    refine vv_aload_n C dL_law_157 rfl 0 rfl 158 rfl ?_
    refine vv_iload C dL_law_158 4 rfl 160 rfl ?_
    refine vv_iconst C (v := 3) dL_law_160 (by decide) 161 rfl ?_
    refine vv_iadd C dL_law_161 162 rfl ?_
    refine vv_sld C XS (hin 3 (by decide)) dL_law_162 163 rfl ?_
    refine vv_aload_n C dL_law_163 rfl 0 rfl 164 rfl ?_
    refine vv_iload C dL_law_164 4 rfl 166 rfl ?_
    refine vv_iconst C (v := 4) dL_law_166 (by decide) 167 rfl ?_
    refine vv_iadd C dL_law_167 168 rfl ?_
    refine vv_sld C XS (hin 4 (by decide)) dL_law_168 169 rfl ?_
    refine vv_aload_n C dL_law_169 rfl 0 rfl 170 rfl ?_
    refine vv_iload C dL_law_170 4 rfl 172 rfl ?_
    refine vv_iconst C (v := 5) dL_law_172 (by decide) 173 rfl ?_
    refine vv_iadd C dL_law_173 174 rfl ?_
    refine vv_sld C XS (hin 5 (by decide)) dL_law_174 175 rfl ?_
    refine vv_aload_n C dL_law_175 rfl 0 rfl 176 rfl ?_
    refine vv_iload C dL_law_176 4 rfl 178 rfl ?_
    refine vv_bipush C (v := 6) dL_law_178 (by decide) 180 rfl ?_
    refine vv_iadd C dL_law_180 181 rfl ?_
    refine vv_sld C XS (hin 6 (by decide)) dL_law_181 182 rfl ?_
    refine vv_aload_n C dL_law_182 rfl 0 rfl 183 rfl ?_
    refine vv_iload C dL_law_183 4 rfl 185 rfl ?_
    refine vv_bipush C (v := 7) dL_law_185 (by decide) 187 rfl ?_
    refine vv_iadd C dL_law_187 188 rfl ?_
    refine vv_sld C XS (hin 7 (by decide)) dL_law_188 189 rfl ?_
    refine vv_aload_n C dL_law_189 rfl 3 rfl 190 rfl ?_
    refine vv_callW C XW (fun l hfl => mt_L_addWater l hfl D c X W R T Y (S 0 0) (S 5 0) (S 6 0) (S 7 0) (S 1) (S 2) (S 3) (S 4) (xs (v4 + 1).toNatClampNeg) (xs (v4 + 2).toNatClampNeg) (xs (v4 + 3).toNatClampNeg) (xs (v4 + 4).toNatClampNeg) (xs (v4 + 5).toNatClampNeg) (xs (v4 + 6).toNatClampNeg) (xs (v4 + 7).toNatClampNeg) o f (Sum.inr u) hA (fun k2 e2 => nomatch e2)) gL_law_L_addWater rfl rfl rfl yd_L_addWater ⟨Nat.le_of_ble_eq_true rfl, Nat.le_of_ble_eq_true rfl⟩ [0, 1, 2, 3, 4, 5, 70] rfl (by decide) (wLaw c X W R B K Q T TB TK TQ Y m0 M o (up (up (up (up (up S 5 (fun _ => u.2.1)) 1 u.2.2.1) 2 u.2.2.2.1) 3 u.2.2.2.2.1) 4 u.2.2.2.2.2) (vp_updL f 0 u.1.toInt64)) [(true, 0), (true, 1), (true, 2), (true, 3), (true, 4), (true, 5), (false, 6), (false, 7), (false, 8), (false, 9), (false, 10), (false, 11), (false, 12), (false, 13), (false, 14), (false, 15), (false, 16), (false, 17), (false, 18), (false, 19), (false, 20), (false, 21), (false, 22), (false, 23), (false, 24), (false, 25), (false, 26), (false, 27), (false, 28), (false, 29), (false, 30), (false, 31), (false, 32), (false, 33), (false, 34), (false, 35), (false, 36), (false, 37), (false, 38), (false, 39), (false, 40), (false, 41), (false, 42), (false, 43), (false, 44), (false, 45), (false, 46), (false, 47), (false, 48), (false, 49), (false, 50), (false, 51), (false, 52), (false, 53), (false, 54), (false, 55), (false, 56), (false, 57), (false, 58), (false, 59), (false, 60), (false, 61), (false, 62), (false, 63), (false, 64), (false, 65), (false, 66), (false, 67), (false, 68), (false, 69), (true, 6)] rfl (by decide) rfl rfl [] rfl (Nat.le_of_ble_eq_true rfl) ⟨show cells + 1 ≤ 601024 by omega, show slots + 6 ≤ 7293034 by omega⟩ dL_law_190 193 (cells + 1) (slots + 6) rfl ⟨rfl, rfl⟩ ?_
    refine vv_istore C [(5, .int (sel (Sum.inr u : Nat ⊕ (Int32 × Int32 × (Nat → Int32) × (Nat → Int32) × (Nat → Int32) × (Nat → Int32))) kcL_addWater (fun _ => 0))), (0, .ref b), (1, .ref (X 0)), (2, .ref m0), (3, .ref o), (4, .int v4)] dL_law_193 (by decide) rfl 195 rfl ?_
    refine vv_aload_n C dL_law_195 rfl 3 rfl 196 rfl ?_
    refine vv_aload_n C dL_law_196 rfl 1 rfl 197 rfl ?_
    refine vv_iload C dL_law_197 5 rfl 199 rfl ?_
    refine vv_iconst C (v := 1) dL_law_199 (by decide) 200 rfl ?_
    refine vv_iadd C dL_law_200 201 rfl ?_
    refine vv_sld C XS (hin 1 (by decide)) dL_law_201 202 rfl ?_
    refine vv_aload_n C dL_law_202 rfl 1 rfl 203 rfl ?_
    refine vv_iload C dL_law_203 5 rfl 205 rfl ?_
    refine vv_iconst C (v := 2) dL_law_205 (by decide) 206 rfl ?_
    refine vv_iadd C dL_law_206 207 rfl ?_
    refine vv_sld C XS (hin 2 (by decide)) dL_law_207 208 rfl ?_
    refine vv_aload_n C dL_law_208 rfl 1 rfl 209 rfl ?_
    refine vv_iload C dL_law_209 5 rfl 211 rfl ?_
    refine vv_iconst C (v := 3) dL_law_211 (by decide) 212 rfl ?_
    refine vv_iadd C dL_law_212 213 rfl ?_
    refine vv_sld C XS (hin 3 (by decide)) dL_law_213 214 rfl ?_
    refine vv_aload_n C dL_law_214 rfl 1 rfl 215 rfl ?_
    refine vv_iload C dL_law_215 5 rfl 217 rfl ?_
    refine vv_iconst C (v := 4) dL_law_217 (by decide) 218 rfl ?_
    refine vv_iadd C dL_law_218 219 rfl ?_
    refine vv_sld C XS (hin 4 (by decide)) dL_law_219 220 rfl ?_
    refine vv_aload_n C dL_law_220 rfl 1 rfl 221 rfl ?_
    refine vv_iload C dL_law_221 5 rfl 223 rfl ?_
    refine vv_iconst C (v := 5) dL_law_223 (by decide) 224 rfl ?_
    refine vv_iadd C dL_law_224 225 rfl ?_
    refine vv_sld C XS (hin 5 (by decide)) dL_law_225 226 rfl ?_
    refine vv_aload_n C dL_law_226 rfl 1 rfl 227 rfl ?_
    refine vv_iload C dL_law_227 5 rfl 229 rfl ?_
    refine vv_bipush C (v := 6) dL_law_229 (by decide) 231 rfl ?_
    refine vv_iadd C dL_law_231 232 rfl ?_
    refine vv_sld C XS (hin 6 (by decide)) dL_law_232 233 rfl ?_
    refine vv_aload_n C dL_law_233 rfl 1 rfl 234 rfl ?_
    refine vv_iload C dL_law_234 5 rfl 236 rfl ?_
    refine vv_bipush C (v := 7) dL_law_236 (by decide) 238 rfl ?_
    refine vv_iadd C dL_law_238 239 rfl ?_
    refine vv_sld C XS (hin 7 (by decide)) dL_law_239 240 rfl ?_
    refine vv_callVi C (fun l => mt_X7_addWater l D c (mA m0 M) (S 60 0) (S 61 0) (S 63 0) (S 64 0) (S 65 0) (S 67 0) (S 62) (xs (v4 + 1).toNatClampNeg) (xs (v4 + 2).toNatClampNeg) (xs (v4 + 3).toNatClampNeg) (xs (v4 + 4).toNatClampNeg) (xs (v4 + 5).toNatClampNeg) (xs (v4 + 6).toNatClampNeg) (xs (v4 + 7).toNatClampNeg) q' hB) gL_law_X7_addWater rfl rfl rfl yd_X7_addWater ⟨Nat.le_of_ble_eq_true rfl, Nat.le_of_ble_eq_true rfl⟩ [57, 58] rfl (by decide) 0 rfl rfl (wLaw c X W R B K Q T TB TK TQ Y m0 M o (up (up (up (up (up (up (up (up S 5 (fun _ => u.2.1)) 1 u.2.2.1) 2 u.2.2.2.1) 3 u.2.2.2.2.1) 4 u.2.2.2.2.2) 60 (fun _ => q'.2.1)) 61 (fun _ => q'.2.2.1)) 62 q'.2.2.2) (vp_updL f 0 u.1.toInt64)) [(false, 0), (false, 1), (false, 2), (false, 3), (false, 4), (false, 5), (false, 6), (false, 7), (false, 8), (false, 9), (false, 10), (false, 11), (false, 12), (false, 13), (false, 14), (false, 15), (false, 16), (false, 17), (false, 18), (false, 19), (false, 20), (false, 21), (false, 22), (false, 23), (false, 24), (false, 25), (false, 26), (false, 27), (false, 28), (false, 29), (false, 30), (false, 31), (false, 32), (false, 33), (false, 34), (false, 35), (false, 36), (false, 37), (false, 38), (false, 39), (false, 40), (false, 41), (false, 42), (false, 43), (false, 44), (false, 45), (false, 46), (false, 47), (false, 48), (false, 49), (false, 50), (false, 51), (false, 52), (false, 53), (false, 54), (false, 55), (false, 56), (true, 0), (true, 1), (false, 59), (false, 60), (false, 61), (false, 62), (false, 63), (false, 64), (false, 65), (false, 66), (false, 67), (false, 68), (false, 69), (false, 70)] rfl (by decide) rfl rfl [] rfl (Nat.le_of_ble_eq_true rfl) ⟨show cells + 1 + 1 ≤ 601024 by omega, show slots + 6 + 7 ≤ 7293034 by omega⟩ dL_law_240 243 (cells + 1 + 1) (slots + 6 + 7) rfl ⟨rfl, rfl⟩ ?_
    refine vv_istore C [(6, .int q'.1), (5, .int (sel (Sum.inr u : Nat ⊕ (Int32 × Int32 × (Nat → Int32) × (Nat → Int32) × (Nat → Int32) × (Nat → Int32))) kcL_addWater (fun _ => 0))), (0, .ref b), (1, .ref (X 0)), (2, .ref m0), (3, .ref o), (4, .int v4)] dL_law_243 (by decide) rfl 245 rfl ?_
    refine vv_aload_n C dL_law_245 rfl 4 rfl 246 rfl ?_
    refine vv_callVi C (fun l => mt_X7_thrown l D c (mA m0 M) ((up (up (up (up (up (up (up (up S 5 (fun _ => u.2.1)) 1 u.2.2.1) 2 u.2.2.2.1) 3 u.2.2.2.2.1) 4 u.2.2.2.2.2) 60 (fun _ => q'.2.1)) 61 (fun _ => q'.2.2.1)) 62 q'.2.2.2) 60 0) ((up (up (up (up (up (up (up (up S 5 (fun _ => u.2.1)) 1 u.2.2.1) 2 u.2.2.2.1) 3 u.2.2.2.2.1) 4 u.2.2.2.2.2) 60 (fun _ => q'.2.1)) 61 (fun _ => q'.2.2.1)) 62 q'.2.2.2) 61 0) ((up (up (up (up (up (up (up (up S 5 (fun _ => u.2.1)) 1 u.2.2.1) 2 u.2.2.2.1) 3 u.2.2.2.2.1) 4 u.2.2.2.2.2) 60 (fun _ => q'.2.1)) 61 (fun _ => q'.2.2.1)) 62 q'.2.2.2) 63 0) ((up (up (up (up (up (up (up (up S 5 (fun _ => u.2.1)) 1 u.2.2.1) 2 u.2.2.2.1) 3 u.2.2.2.2.1) 4 u.2.2.2.2.2) 60 (fun _ => q'.2.1)) 61 (fun _ => q'.2.2.1)) 62 q'.2.2.2) 64 0) ((up (up (up (up (up (up (up (up S 5 (fun _ => u.2.1)) 1 u.2.2.1) 2 u.2.2.2.1) 3 u.2.2.2.2.1) 4 u.2.2.2.2.2) 60 (fun _ => q'.2.1)) 61 (fun _ => q'.2.2.1)) 62 q'.2.2.2) 65 0) ((up (up (up (up (up (up (up (up S 5 (fun _ => u.2.1)) 1 u.2.2.1) 2 u.2.2.2.1) 3 u.2.2.2.2.1) 4 u.2.2.2.2.2) 60 (fun _ => q'.2.1)) 61 (fun _ => q'.2.2.1)) 62 q'.2.2.2) 67 0) q'.2.1 rfl) gL_law_X7_thrown rfl rfl rfl yd_X7_thrown ⟨Nat.le_of_ble_eq_true rfl, Nat.le_of_ble_eq_true rfl⟩ [57] rfl (by decide) 0 rfl rfl (wLaw c X W R B K Q T TB TK TQ Y m0 M o (up (up (up (up (up (up (up (up S 5 (fun _ => u.2.1)) 1 u.2.2.1) 2 u.2.2.2.1) 3 u.2.2.2.2.1) 4 u.2.2.2.2.2) 60 (fun _ => q'.2.1)) 61 (fun _ => q'.2.2.1)) 62 q'.2.2.2) (vp_updL f 0 u.1.toInt64)) [(false, 0), (false, 1), (false, 2), (false, 3), (false, 4), (false, 5), (false, 6), (false, 7), (false, 8), (false, 9), (false, 10), (false, 11), (false, 12), (false, 13), (false, 14), (false, 15), (false, 16), (false, 17), (false, 18), (false, 19), (false, 20), (false, 21), (false, 22), (false, 23), (false, 24), (false, 25), (false, 26), (false, 27), (false, 28), (false, 29), (false, 30), (false, 31), (false, 32), (false, 33), (false, 34), (false, 35), (false, 36), (false, 37), (false, 38), (false, 39), (false, 40), (false, 41), (false, 42), (false, 43), (false, 44), (false, 45), (false, 46), (false, 47), (false, 48), (false, 49), (false, 50), (false, 51), (false, 52), (false, 53), (false, 54), (false, 55), (false, 56), (true, 0), (false, 58), (false, 59), (false, 60), (false, 61), (false, 62), (false, 63), (false, 64), (false, 65), (false, 66), (false, 67), (false, 68), (false, 69), (false, 70)] rfl (by decide) rfl rfl [] rfl (Nat.le_of_ble_eq_true rfl) ⟨show cells + 1 + 1 ≤ 601024 by omega, show slots + 6 + 7 ≤ 7293034 by omega⟩ dL_law_246 249 (cells + 1 + 1) (slots + 6 + 7) rfl ⟨rfl, rfl⟩ ?_
    refine vv_iload C dL_law_249 1 rfl 251 rfl ?_
    refine vv_icmp_eq C 256 254 dL_law_251 (by decide) rfl (fun _ => ?_) (fun hc => absurd hthr hc)
    refine vv_iload C dL_law_256 1 rfl 258 rfl ?_
    refine vv_if_ne C 273 261 dL_law_258 (by decide) rfl (fun hc => absurd rfl hc) (fun _ => ?_)
    refine vv_aload_n C dL_law_261 rfl 5 rfl 262 rfl ?_
    refine vv_iconst C (v := 0) dL_law_262 (by decide) 263 rfl ?_
    refine vv_lald C (q0 := 70) rfl (inB_t (by decide)) dL_law_263 264 rfl ?_
    refine vv_iload C dL_law_264 0 rfl 266 rfl ?_
    refine vv_i2l C dL_law_266 267 rfl ?_
    refine vv_lcmp C dL_law_267 268 rfl ?_
    refine vv_if_eq C 273 271 dL_law_268 (by decide) rfl (fun _ => ?_) (fun hc => absurd (by rw [hret]; exact lcmp_self _) hc)
    refine vv_goto C 1623 dL_law_273 (by decide) ?_
    refine vv_lv [2, 3, 4, 5, 6] [(0, .ref b), (1, .ref (X 0)), (2, .ref m0), (3, .ref o), (4, .int v4)] rfl ?_
    refine vv_cs (k := cells + (1 + 1)) (n := slots + (6 + 7)) (by omega) (by omega) ?_
    exact K1 _ _ _ _ _ hRel ⟨by omega, by omega, Or.inr ⟨rfl, fun h0 => by omega⟩⟩
