theorem lc_likeliest {G : zG} {l : Launch} {nm : String} {a b bS Ls k : Nat} {xs : Nat → Int32} {M : zM} {Q : Option Value → zM → Prop} {bc bs : Nat}  (hX : zX G bS Ls xs) (hL : Ls < 2 ^ 31) (hk6 : 6 * k + 6 ≤ Ls) (hkT : 100 * (k + 1) < 2 ^ 24) (hSt : lS a b M k) (hn : ∀ M', lS a b M' (k + 1) → aj G l (kL nm) 84 1694 [(3, .int (nI (6 * k))), (0, .ref bS), (1, .ref a), (2, .ref b)] [] M' bc bs Q) : aj G l (kL nm) 84 927 [(3, .int (nI (6 * k))), (0, .ref bS), (1, .ref a), (2, .ref b)] [] M bc bs Q := by
  obtain ⟨t, n, V0, W0, R, I, A, L, hg, hs⟩ := hSt
  obtain ⟨T, sl, ol, hH⟩ := hs.cH
  have hB := hH.2.2.2
  have hTr := hs.2.2.1
  have h33 : ∀ j, j < 4 → bd (A 33 j) 40 := fun j hj => (hTr j hj).1
  have hI := hs.2.1.2.1
  have h28 := hisR_b hI
  have hkW := hg.2.2.2.1
  refine aj.aload_n dL_law_927 rfl ?_
  refine aj.aload_n dL_law_928 rfl ?_
  refine aj.iload_n dL_law_929 rfl ?_
  refine aj.iconst (v := 1) dL_law_930 rfl ?_
  refine aj.iaddN (a := 6 * k) (b := 1) dL_law_931 rfl rfl ?_
  refine aj.sci hX (j := (6 * k) + 1) rfl (by omega) hL dL_law_932 ?_
  refine aj.aload_n dL_law_933 rfl ?_
  refine aj.iload_n dL_law_934 rfl ?_
  refine aj.iconst (v := 2) dL_law_935 rfl ?_
  refine aj.iaddN (a := 6 * k) (b := 2) dL_law_936 rfl rfl ?_
  refine aj.sci hX (j := (6 * k) + 2) rfl (by omega) hL dL_law_937 ?_
  refine aj.callE1 (d' := 6) (bc := bc) (bs := bs) (kc := 0) (ks := 0) (As := [.int (xs ((6 * k) + 1)), .int (xs ((6 * k) + 2))]) (rest := []) dL_law_938 v_L_118 li_X11_likeliest hg.obC rfl rfl rfl (Nat.le_of_ble_eq_true rfl) (Nat.le_of_ble_eq_true rfl) (p_likeliest ((xs ((6 * k) + 1))) ((xs ((6 * k) + 2))) hkW hH ) (fun M1 hM => ?_)
  obtain ⟨hg1, hk1⟩ := hg.c hM rfl
  refine aj.aload_n dL_law_941 rfl ?_
  refine aj.aload_n dL_law_942 rfl ?_
  refine aj.iload_n dL_law_943 rfl ?_
  refine aj.iconst (v := 1) dL_law_944 rfl ?_
  refine aj.iaddN (a := 6 * k) (b := 1) dL_law_945 rfl rfl ?_
  refine aj.sci hX (j := (6 * k) + 1) rfl (by omega) hL dL_law_946 ?_
  refine aj.aload_n dL_law_947 rfl ?_
  refine aj.iload_n dL_law_948 rfl ?_
  refine aj.iconst (v := 2) dL_law_949 rfl ?_
  refine aj.iaddN (a := 6 * k) (b := 2) dL_law_950 rfl rfl ?_
  refine aj.sci hX (j := (6 * k) + 2) rfl (by omega) hL dL_law_951 ?_
  refine aj.callE1 (d' := 5) (bc := bc) (bs := bs) (kc := 0) (ks := 0) (As := [.int (xs ((6 * k) + 1)), .int (xs ((6 * k) + 2))]) (rest := [.int _]) dL_law_952 v_L_121 li_X12_likeliest hg1.obR rfl rfl rfl (Nat.le_of_ble_eq_true rfl) (Nat.le_of_ble_eq_true rfl) (q_likeliest ((xs ((6 * k) + 1))) ((xs ((6 * k) + 2))) hg1.2.2.2.2.1 hB) (fun M2 hM => ?_)
  obtain ⟨g21, hM⟩ := hM
  obtain ⟨hg2, hk2⟩ := hg1.r hM
  refine aj.icmp_eq (tgt := 1694) dL_law_955 rfl (fun c955 => ?_) (fun c955 => ?_)
  · refine aj.pick [0, 1, 2, 3] rfl ?_
    exact hn M2 ⟨t, n, V0, W0, R, I, va_up A 21 g21, L, hg2, ((hs.kp (hk1.trans hk2)).cong rfl rfl rfl (va_up_ne _ _ (by decide)) (va_up_ne _ _ (by decide)) (va_up_ne _ _ (by decide)) (va_up_ne _ _ (by decide)) (va_up_ne _ _ (by decide)) rfl).more (by omega) hkT⟩
  · exact absurd (rfl) c955
theorem lc_shooters {G : zG} {l : Launch} {nm : String} {a b bS Ls k : Nat} {xs : Nat → Int32} {M : zM} {Q : Option Value → zM → Prop} {bc bs : Nat}  (hX : zX G bS Ls xs) (hL : Ls < 2 ^ 31) (hk6 : 6 * k + 6 ≤ Ls) (hkT : 100 * (k + 1) < 2 ^ 24) (hSt : lS a b M k) (hn : ∀ M', lS a b M' (k + 1) → aj G l (kL nm) 84 1694 [(3, .int (nI (6 * k))), (0, .ref bS), (1, .ref a), (2, .ref b)] [] M' bc bs Q) : aj G l (kL nm) 84 1137 [(3, .int (nI (6 * k))), (0, .ref bS), (1, .ref a), (2, .ref b)] [] M bc bs Q := by
  obtain ⟨t, n, V0, W0, R, I, A, L, hg, hs⟩ := hSt
  obtain ⟨T, sl, ol, hH⟩ := hs.cH
  have hB := hH.2.2.2
  have hTr := hs.2.2.1
  have h33 : ∀ j, j < 4 → bd (A 33 j) 40 := fun j hj => (hTr j hj).1
  have hI := hs.2.1.2.1
  have h28 := hisR_b hI
  have hkW := hg.2.2.2.1
  refine aj.aload_n dL_law_1137 rfl ?_
  refine aj.aload_n dL_law_1138 rfl ?_
  refine aj.iload_n dL_law_1139 rfl ?_
  refine aj.iconst (v := 1) dL_law_1140 rfl ?_
  refine aj.iaddN (a := 6 * k) (b := 1) dL_law_1141 rfl rfl ?_
  refine aj.sci hX (j := (6 * k) + 1) rfl (by omega) hL dL_law_1142 ?_
  refine aj.aload_n dL_law_1143 rfl ?_
  refine aj.iload_n dL_law_1144 rfl ?_
  refine aj.iconst (v := 2) dL_law_1145 rfl ?_
  refine aj.iaddN (a := 6 * k) (b := 2) dL_law_1146 rfl rfl ?_
  refine aj.sci hX (j := (6 * k) + 2) rfl (by omega) hL dL_law_1147 ?_
  refine aj.callE1 (d' := 8) (bc := bc) (bs := bs) (kc := 0) (ks := 0) (As := [.int (xs ((6 * k) + 1)), .int (xs ((6 * k) + 2))]) (rest := []) dL_law_1148 v_L_144 li_X11_shooters hg.obC rfl rfl rfl (Nat.le_of_ble_eq_true rfl) (Nat.le_of_ble_eq_true rfl) (p_shooters ((xs ((6 * k) + 1))) ((xs ((6 * k) + 2))) hkW hH hTr) (fun M1 hM => ?_)
  obtain ⟨hg1, hk1⟩ := hg.c hM rfl
  refine aj.aload_n dL_law_1151 rfl ?_
  refine aj.aload_n dL_law_1152 rfl ?_
  refine aj.iload_n dL_law_1153 rfl ?_
  refine aj.iconst (v := 1) dL_law_1154 rfl ?_
  refine aj.iaddN (a := 6 * k) (b := 1) dL_law_1155 rfl rfl ?_
  refine aj.sci hX (j := (6 * k) + 1) rfl (by omega) hL dL_law_1156 ?_
  refine aj.aload_n dL_law_1157 rfl ?_
  refine aj.iload_n dL_law_1158 rfl ?_
  refine aj.iconst (v := 2) dL_law_1159 rfl ?_
  refine aj.iaddN (a := 6 * k) (b := 2) dL_law_1160 rfl rfl ?_
  refine aj.sci hX (j := (6 * k) + 2) rfl (by omega) hL dL_law_1161 ?_
  refine aj.callE1 (d' := 7) (bc := bc) (bs := bs) (kc := 0) (ks := 0) (As := [.int (xs ((6 * k) + 1)), .int (xs ((6 * k) + 2))]) (rest := [.int _]) dL_law_1162 v_L_147 li_X12_shooters hg1.obR rfl rfl rfl (Nat.le_of_ble_eq_true rfl) (Nat.le_of_ble_eq_true rfl) (q_shooters ((xs ((6 * k) + 1))) ((xs ((6 * k) + 2))) hg1.2.2.2.2.1 h33 hB) (fun M2 hM => ?_)
  obtain ⟨g21, hM⟩ := hM
  obtain ⟨hg2, hk2⟩ := hg1.r hM
  refine aj.icmp_eq (tgt := 1694) dL_law_1165 rfl (fun c1165 => ?_) (fun c1165 => ?_)
  · refine aj.pick [0, 1, 2, 3] rfl ?_
    exact hn M2 ⟨t, n, V0, W0, R, I, va_up A 21 g21, L, hg2, ((hs.kp (hk1.trans hk2)).cong rfl rfl rfl (va_up_ne _ _ (by decide)) (va_up_ne _ _ (by decide)) (va_up_ne _ _ (by decide)) (va_up_ne _ _ (by decide)) (va_up_ne _ _ (by decide)) rfl).more (by omega) hkT⟩
  · exact absurd (rfl) c1165
theorem lc_odds {G : zG} {l : Launch} {nm : String} {a b bS Ls k : Nat} {xs : Nat → Int32} {M : zM} {Q : Option Value → zM → Prop} {bc bs : Nat}  (hX : zX G bS Ls xs) (hL : Ls < 2 ^ 31) (hk6 : 6 * k + 6 ≤ Ls) (hkT : 100 * (k + 1) < 2 ^ 24) (hSt : lS a b M k) (hn : ∀ M', lS a b M' (k + 1) → aj G l (kL nm) 84 1694 [(3, .int (nI (6 * k))), (0, .ref bS), (1, .ref a), (2, .ref b)] [] M' bc bs Q) : aj G l (kL nm) 84 1170 [(3, .int (nI (6 * k))), (0, .ref bS), (1, .ref a), (2, .ref b)] [] M bc bs Q := by
  obtain ⟨t, n, V0, W0, R, I, A, L, hg, hs⟩ := hSt
  obtain ⟨T, sl, ol, hH⟩ := hs.cH
  have hB := hH.2.2.2
  have hTr := hs.2.2.1
  have h33 : ∀ j, j < 4 → bd (A 33 j) 40 := fun j hj => (hTr j hj).1
  have hI := hs.2.1.2.1
  have h28 := hisR_b hI
  have hkW := hg.2.2.2.1
  refine aj.aload_n dL_law_1170 rfl ?_
  refine aj.aload_n dL_law_1171 rfl ?_
  refine aj.iload_n dL_law_1172 rfl ?_
  refine aj.iconst (v := 1) dL_law_1173 rfl ?_
  refine aj.iaddN (a := 6 * k) (b := 1) dL_law_1174 rfl rfl ?_
  refine aj.sci hX (j := (6 * k) + 1) rfl (by omega) hL dL_law_1175 ?_
  refine aj.aload_n dL_law_1176 rfl ?_
  refine aj.iload_n dL_law_1177 rfl ?_
  refine aj.iconst (v := 2) dL_law_1178 rfl ?_
  refine aj.iaddN (a := 6 * k) (b := 2) dL_law_1179 rfl rfl ?_
  refine aj.sci hX (j := (6 * k) + 2) rfl (by omega) hL dL_law_1180 ?_
  refine aj.aload_n dL_law_1181 rfl ?_
  refine aj.iload_n dL_law_1182 rfl ?_
  refine aj.iconst (v := 3) dL_law_1183 rfl ?_
  refine aj.iaddN (a := 6 * k) (b := 3) dL_law_1184 rfl rfl ?_
  refine aj.sci hX (j := (6 * k) + 3) rfl (by omega) hL dL_law_1185 ?_
  refine aj.aload_n dL_law_1186 rfl ?_
  refine aj.iload_n dL_law_1187 rfl ?_
  refine aj.iconst (v := 4) dL_law_1188 rfl ?_
  refine aj.iaddN (a := 6 * k) (b := 4) dL_law_1189 rfl rfl ?_
  refine aj.sci hX (j := (6 * k) + 4) rfl (by omega) hL dL_law_1190 ?_
  refine aj.callE1 (d' := 7) (bc := bc) (bs := bs) (kc := 0) (ks := 0) (As := [.int (xs ((6 * k) + 1)), .int (xs ((6 * k) + 2)), .int (xs ((6 * k) + 3)), .int (xs ((6 * k) + 4))]) (rest := []) dL_law_1191 v_L_148 li_X11_odds hg.obC rfl rfl rfl (Nat.le_of_ble_eq_true rfl) (Nat.le_of_ble_eq_true rfl) (p_odds ((xs ((6 * k) + 1))) ((xs ((6 * k) + 2))) ((xs ((6 * k) + 3))) ((xs ((6 * k) + 4))) hkW hH hTr) (fun M1 hM => ?_)
  obtain ⟨hg1, hk1⟩ := hg.c hM rfl
  refine aj.aload_n dL_law_1194 rfl ?_
  refine aj.aload_n dL_law_1195 rfl ?_
  refine aj.iload_n dL_law_1196 rfl ?_
  refine aj.iconst (v := 1) dL_law_1197 rfl ?_
  refine aj.iaddN (a := 6 * k) (b := 1) dL_law_1198 rfl rfl ?_
  refine aj.sci hX (j := (6 * k) + 1) rfl (by omega) hL dL_law_1199 ?_
  refine aj.aload_n dL_law_1200 rfl ?_
  refine aj.iload_n dL_law_1201 rfl ?_
  refine aj.iconst (v := 2) dL_law_1202 rfl ?_
  refine aj.iaddN (a := 6 * k) (b := 2) dL_law_1203 rfl rfl ?_
  refine aj.sci hX (j := (6 * k) + 2) rfl (by omega) hL dL_law_1204 ?_
  refine aj.aload_n dL_law_1205 rfl ?_
  refine aj.iload_n dL_law_1206 rfl ?_
  refine aj.iconst (v := 3) dL_law_1207 rfl ?_
  refine aj.iaddN (a := 6 * k) (b := 3) dL_law_1208 rfl rfl ?_
  refine aj.sci hX (j := (6 * k) + 3) rfl (by omega) hL dL_law_1209 ?_
  refine aj.aload_n dL_law_1210 rfl ?_
  refine aj.iload_n dL_law_1211 rfl ?_
  refine aj.iconst (v := 4) dL_law_1212 rfl ?_
  refine aj.iaddN (a := 6 * k) (b := 4) dL_law_1213 rfl rfl ?_
  refine aj.sci hX (j := (6 * k) + 4) rfl (by omega) hL dL_law_1214 ?_
  refine aj.callE1 (d' := 83) (bc := bc) (bs := bs) (kc := 0) (ks := 0) (As := [.int (xs ((6 * k) + 1)), .int (xs ((6 * k) + 2)), .int (xs ((6 * k) + 3)), .int (xs ((6 * k) + 4))]) (rest := [.long _]) dL_law_1215 v_L_151 li_X12_odds hg1.obR rfl rfl rfl (Nat.le_of_ble_eq_true rfl) (Nat.le_of_ble_eq_true rfl) (q_odds ((xs ((6 * k) + 1))) ((xs ((6 * k) + 2))) ((xs ((6 * k) + 3))) ((xs ((6 * k) + 4))) hg1.2.2.2.2.1 h33 hB) (fun M2 hM => ?_)
  obtain ⟨g21, hM⟩ := hM
  obtain ⟨hg2, hk2⟩ := hg1.r hM
  refine aj.lif_eq (tgt := 1694) dL_law_1218 dL_law_1219 rfl (fun c1218 => ?_) (fun c1218 => ?_)
  · refine aj.pick [0, 1, 2, 3] rfl ?_
    exact hn M2 ⟨t, n, V0, W0, R, I, va_up A 21 g21, L, hg2, ((hs.kp (hk1.trans hk2)).cong rfl rfl rfl (va_up_ne _ _ (by decide)) (va_up_ne _ _ (by decide)) (va_up_ne _ _ (by decide)) (va_up_ne _ _ (by decide)) (va_up_ne _ _ (by decide)) rfl).more (by omega) hkT⟩
  · exact absurd (rfl) c1218
theorem lc_tells {G : zG} {l : Launch} {nm : String} {a b bS Ls k : Nat} {xs : Nat → Int32} {M : zM} {Q : Option Value → zM → Prop} {bc bs : Nat}  (hX : zX G bS Ls xs) (hL : Ls < 2 ^ 31) (hk6 : 6 * k + 6 ≤ Ls) (hkT : 100 * (k + 1) < 2 ^ 24) (hSt : lS a b M k) (hn : ∀ M', lS a b M' (k + 1) → aj G l (kL nm) 84 1694 [(3, .int (nI (6 * k))), (0, .ref bS), (1, .ref a), (2, .ref b)] [] M' bc bs Q) : aj G l (kL nm) 84 1224 [(3, .int (nI (6 * k))), (0, .ref bS), (1, .ref a), (2, .ref b)] [] M bc bs Q := by
  obtain ⟨t, n, V0, W0, R, I, A, L, hg, hs⟩ := hSt
  obtain ⟨T, sl, ol, hH⟩ := hs.cH
  have hB := hH.2.2.2
  have hTr := hs.2.2.1
  have h33 : ∀ j, j < 4 → bd (A 33 j) 40 := fun j hj => (hTr j hj).1
  have hI := hs.2.1.2.1
  have h28 := hisR_b hI
  have hkW := hg.2.2.2.1
  refine aj.aload_n dL_law_1224 rfl ?_
  refine aj.aload_n dL_law_1225 rfl ?_
  refine aj.iload_n dL_law_1226 rfl ?_
  refine aj.iconst (v := 1) dL_law_1227 rfl ?_
  refine aj.iaddN (a := 6 * k) (b := 1) dL_law_1228 rfl rfl ?_
  refine aj.sci hX (j := (6 * k) + 1) rfl (by omega) hL dL_law_1229 ?_
  refine aj.aload_n dL_law_1230 rfl ?_
  refine aj.iload_n dL_law_1231 rfl ?_
  refine aj.iconst (v := 2) dL_law_1232 rfl ?_
  refine aj.iaddN (a := 6 * k) (b := 2) dL_law_1233 rfl rfl ?_
  refine aj.sci hX (j := (6 * k) + 2) rfl (by omega) hL dL_law_1234 ?_
  refine aj.callE1 (d' := 8) (bc := bc) (bs := bs) (kc := 0) (ks := 0) (As := [.int (xs ((6 * k) + 1)), .int (xs ((6 * k) + 2))]) (rest := []) dL_law_1235 v_L_152 li_X11_tells hg.obC rfl rfl rfl (Nat.le_of_ble_eq_true rfl) (Nat.le_of_ble_eq_true rfl) (p_tells ((xs ((6 * k) + 1))) ((xs ((6 * k) + 2))) hkW hH hTr) (fun M1 hM => ?_)
  obtain ⟨hg1, hk1⟩ := hg.c hM rfl
  refine aj.aload_n dL_law_1238 rfl ?_
  refine aj.aload_n dL_law_1239 rfl ?_
  refine aj.iload_n dL_law_1240 rfl ?_
  refine aj.iconst (v := 1) dL_law_1241 rfl ?_
  refine aj.iaddN (a := 6 * k) (b := 1) dL_law_1242 rfl rfl ?_
  refine aj.sci hX (j := (6 * k) + 1) rfl (by omega) hL dL_law_1243 ?_
  refine aj.aload_n dL_law_1244 rfl ?_
  refine aj.iload_n dL_law_1245 rfl ?_
  refine aj.iconst (v := 2) dL_law_1246 rfl ?_
  refine aj.iaddN (a := 6 * k) (b := 2) dL_law_1247 rfl rfl ?_
  refine aj.sci hX (j := (6 * k) + 2) rfl (by omega) hL dL_law_1248 ?_
  refine aj.callE1 (d' := 7) (bc := bc) (bs := bs) (kc := 0) (ks := 0) (As := [.int (xs ((6 * k) + 1)), .int (xs ((6 * k) + 2))]) (rest := [.int _]) dL_law_1249 v_L_155 li_X12_tells hg1.obR rfl rfl rfl (Nat.le_of_ble_eq_true rfl) (Nat.le_of_ble_eq_true rfl) (q_tells ((xs ((6 * k) + 1))) ((xs ((6 * k) + 2))) hg1.2.2.2.2.1 h33 hB) (fun M2 hM => ?_)
  obtain ⟨g21, hM⟩ := hM
  obtain ⟨hg2, hk2⟩ := hg1.r hM
  refine aj.icmp_eq (tgt := 1694) dL_law_1252 rfl (fun c1252 => ?_) (fun c1252 => ?_)
  · refine aj.pick [0, 1, 2, 3] rfl ?_
    exact hn M2 ⟨t, n, V0, W0, R, I, va_up A 21 g21, L, hg2, ((hs.kp (hk1.trans hk2)).cong rfl rfl rfl (va_up_ne _ _ (by decide)) (va_up_ne _ _ (by decide)) (va_up_ne _ _ (by decide)) (va_up_ne _ _ (by decide)) (va_up_ne _ _ (by decide)) rfl).more (by omega) hkT⟩
  · exact absurd (rfl) c1252
theorem lc_attempt {G : zG} {l : Launch} {nm : String} {a b bS Ls k : Nat} {xs : Nat → Int32} {M : zM} {Q : Option Value → zM → Prop} {bc bs : Nat}  (hX : zX G bS Ls xs) (hL : Ls < 2 ^ 31) (hk6 : 6 * k + 6 ≤ Ls) (hkT : 100 * (k + 1) < 2 ^ 24) (hSt : lS a b M k) (hn : ∀ M', lS a b M' (k + 1) → aj G l (kL nm) 84 1694 [(3, .int (nI (6 * k))), (0, .ref bS), (1, .ref a), (2, .ref b)] [] M' bc bs Q) : aj G l (kL nm) 84 1300 [(3, .int (nI (6 * k))), (0, .ref bS), (1, .ref a), (2, .ref b)] [] M bc bs Q := by
  obtain ⟨t, n, V0, W0, R, I, A, L, hg, hs⟩ := hSt
  obtain ⟨T, sl, ol, hH⟩ := hs.cH
  have hB := hH.2.2.2
  have hTr := hs.2.2.1
  have h33 : ∀ j, j < 4 → bd (A 33 j) 40 := fun j hj => (hTr j hj).1
  have hI := hs.2.1.2.1
  have h28 := hisR_b hI
  have hkW := hg.2.2.2.1
  refine aj.aload_n dL_law_1300 rfl ?_
  refine aj.aload_n dL_law_1301 rfl ?_
  refine aj.iload_n dL_law_1302 rfl ?_
  refine aj.iconst (v := 1) dL_law_1303 rfl ?_
  refine aj.iaddN (a := 6 * k) (b := 1) dL_law_1304 rfl rfl ?_
  refine aj.sci hX (j := (6 * k) + 1) rfl (by omega) hL dL_law_1305 ?_
  refine aj.aload_n dL_law_1306 rfl ?_
  refine aj.iload_n dL_law_1307 rfl ?_
  refine aj.iconst (v := 2) dL_law_1308 rfl ?_
  refine aj.iaddN (a := 6 * k) (b := 2) dL_law_1309 rfl rfl ?_
  refine aj.sci hX (j := (6 * k) + 2) rfl (by omega) hL dL_law_1310 ?_
  refine aj.aload_n dL_law_1311 rfl ?_
  refine aj.iload_n dL_law_1312 rfl ?_
  refine aj.iconst (v := 3) dL_law_1313 rfl ?_
  refine aj.iaddN (a := 6 * k) (b := 3) dL_law_1314 rfl rfl ?_
  refine aj.sci hX (j := (6 * k) + 3) rfl (by omega) hL dL_law_1315 ?_
  refine aj.callE1 (d' := 8) (bc := bc) (bs := bs) (kc := 0) (ks := 0) (As := [.int (xs ((6 * k) + 1)), .int (xs ((6 * k) + 2)), .int (xs ((6 * k) + 3))]) (rest := []) dL_law_1316 v_L_160 li_X11_attempt hg.obC rfl rfl rfl (Nat.le_of_ble_eq_true rfl) (Nat.le_of_ble_eq_true rfl) (p_attempt ((xs ((6 * k) + 1))) ((xs ((6 * k) + 2))) ((xs ((6 * k) + 3))) hkW hH hTr rfl) (fun M1 hM => ?_)
  obtain ⟨hg1, hk1⟩ := hg.c hM rfl
  refine aj.aload_n dL_law_1319 rfl ?_
  refine aj.aload_n dL_law_1320 rfl ?_
  refine aj.iload_n dL_law_1321 rfl ?_
  refine aj.iconst (v := 1) dL_law_1322 rfl ?_
  refine aj.iaddN (a := 6 * k) (b := 1) dL_law_1323 rfl rfl ?_
  refine aj.sci hX (j := (6 * k) + 1) rfl (by omega) hL dL_law_1324 ?_
  refine aj.aload_n dL_law_1325 rfl ?_
  refine aj.iload_n dL_law_1326 rfl ?_
  refine aj.iconst (v := 2) dL_law_1327 rfl ?_
  refine aj.iaddN (a := 6 * k) (b := 2) dL_law_1328 rfl rfl ?_
  refine aj.sci hX (j := (6 * k) + 2) rfl (by omega) hL dL_law_1329 ?_
  refine aj.aload_n dL_law_1330 rfl ?_
  refine aj.iload_n dL_law_1331 rfl ?_
  refine aj.iconst (v := 3) dL_law_1332 rfl ?_
  refine aj.iaddN (a := 6 * k) (b := 3) dL_law_1333 rfl rfl ?_
  refine aj.sci hX (j := (6 * k) + 3) rfl (by omega) hL dL_law_1334 ?_
  refine aj.callE1 (d' := 4) (bc := bc) (bs := bs) (kc := 0) (ks := 0) (As := [.int (xs ((6 * k) + 1)), .int (xs ((6 * k) + 2)), .int (xs ((6 * k) + 3))]) (rest := [.int _]) dL_law_1335 v_L_163 li_X12_attempt hg1.obR rfl rfl rfl (Nat.le_of_ble_eq_true rfl) (Nat.le_of_ble_eq_true rfl) (q_attempt ((xs ((6 * k) + 1))) ((xs ((6 * k) + 2))) ((xs ((6 * k) + 3))) hg1.2.2.2.2.1 h33 hB) (fun M2 hM => ?_)
  obtain ⟨g21, hM⟩ := hM
  obtain ⟨hg2, hk2⟩ := hg1.r hM
  refine aj.icmp_eq (tgt := 1694) dL_law_1338 rfl (fun c1338 => ?_) (fun c1338 => ?_)
  · refine aj.pick [0, 1, 2, 3] rfl ?_
    exact hn M2 ⟨t, n, V0, W0, R, I, va_up A 21 g21, L, hg2, ((hs.kp (hk1.trans hk2)).cong rfl rfl rfl (va_up_ne _ _ (by decide)) (va_up_ne _ _ (by decide)) (va_up_ne _ _ (by decide)) (va_up_ne _ _ (by decide)) (va_up_ne _ _ (by decide)) rfl).more (by omega) hkT⟩
  · exact absurd (rfl) c1338
theorem lc_order {G : zG} {l : Launch} {nm : String} {a b bS Ls k : Nat} {xs : Nat → Int32} {M : zM} {Q : Option Value → zM → Prop} {bc bs : Nat}  (hX : zX G bS Ls xs) (hL : Ls < 2 ^ 31) (hk6 : 6 * k + 6 ≤ Ls) (hkT : 100 * (k + 1) < 2 ^ 24) (hSt : lS a b M k) (hn : ∀ M', lS a b M' (k + 1) → aj G l (kL nm) 84 1694 [(3, .int (nI (6 * k))), (0, .ref bS), (1, .ref a), (2, .ref b)] [] M' bc bs Q) : aj G l (kL nm) 84 1343 [(3, .int (nI (6 * k))), (0, .ref bS), (1, .ref a), (2, .ref b)] [] M bc bs Q := by
  obtain ⟨t, n, V0, W0, R, I, A, L, hg, hs⟩ := hSt
  obtain ⟨T, sl, ol, hH⟩ := hs.cH
  have hB := hH.2.2.2
  have hTr := hs.2.2.1
  have h33 : ∀ j, j < 4 → bd (A 33 j) 40 := fun j hj => (hTr j hj).1
  have hI := hs.2.1.2.1
  have h28 := hisR_b hI
  have hkW := hg.2.2.2.1
  refine aj.aload_n dL_law_1343 rfl ?_
  refine aj.aload_n dL_law_1344 rfl ?_
  refine aj.iload_n dL_law_1345 rfl ?_
  refine aj.iconst (v := 1) dL_law_1346 rfl ?_
  refine aj.iaddN (a := 6 * k) (b := 1) dL_law_1347 rfl rfl ?_
  refine aj.sci hX (j := (6 * k) + 1) rfl (by omega) hL dL_law_1348 ?_
  refine aj.callE1 (d' := 7) (bc := bc) (bs := bs) (kc := 0) (ks := 0) (As := [.int (xs ((6 * k) + 1))]) (rest := []) dL_law_1349 v_L_164 li_X11_order hg.obC rfl rfl rfl (Nat.le_of_ble_eq_true rfl) (Nat.le_of_ble_eq_true rfl) (p_order ((xs ((6 * k) + 1))) hkW hH ) (fun M1 hM => ?_)
  obtain ⟨hg1, hk1⟩ := hg.c hM rfl
  refine aj.aload_n dL_law_1352 rfl ?_
  refine aj.aload_n dL_law_1353 rfl ?_
  refine aj.iload_n dL_law_1354 rfl ?_
  refine aj.iconst (v := 1) dL_law_1355 rfl ?_
  refine aj.iaddN (a := 6 * k) (b := 1) dL_law_1356 rfl rfl ?_
  refine aj.sci hX (j := (6 * k) + 1) rfl (by omega) hL dL_law_1357 ?_
  refine aj.callE1 (d' := 7) (bc := bc) (bs := bs) (kc := 0) (ks := 0) (As := [.int (xs ((6 * k) + 1))]) (rest := [.int _]) dL_law_1358 v_L_167 li_X12_order hg1.obR rfl rfl rfl (Nat.le_of_ble_eq_true rfl) (Nat.le_of_ble_eq_true rfl) (q_order ((xs ((6 * k) + 1))) hg1.2.2.2.2.1 hB) (fun M2 hM => ?_)
  obtain ⟨I', A', L', hM, ⟨i5, i13, i14⟩, ⟨a1, a2, a3, a32, a33⟩, l34⟩ := hM
  obtain ⟨hg2, hk2⟩ := hg1.r hM
  refine aj.icmp_eq (tgt := 1694) dL_law_1361 rfl (fun c1361 => ?_) (fun c1361 => ?_)
  · refine aj.pick [0, 1, 2, 3] rfl ?_
    exact hn M2 ⟨t, n, V0, W0, R, I', A', L', hg2, ((hs.kp (hk1.trans hk2)).cong i5 i13 i14 a1 a2 a3 a32 a33 l34).more (by omega) hkT⟩
  · exact absurd (rfl) c1361
theorem lc_round {G : zG} {l : Launch} {nm : String} {a b bS Ls k : Nat} {xs : Nat → Int32} {M : zM} {Q : Option Value → zM → Prop} {bc bs : Nat}  (hX : zX G bS Ls xs) (hL : Ls < 2 ^ 31) (hk6 : 6 * k + 6 ≤ Ls) (hkT : 100 * (k + 1) < 2 ^ 24) (hSt : lS a b M k) (hn : ∀ M', lS a b M' (k + 1) → aj G l (kL nm) 84 1694 [(3, .int (nI (6 * k))), (0, .ref bS), (1, .ref a), (2, .ref b)] [] M' bc bs Q) : aj G l (kL nm) 84 1060 [(3, .int (nI (6 * k))), (0, .ref bS), (1, .ref a), (2, .ref b)] [] M bc bs Q := by
  obtain ⟨t, n, V0, W0, R, I, A, L, hg, hs⟩ := hSt
  obtain ⟨T, sl, ol, hH⟩ := hs.cH
  have hB := hH.2.2.2
  have hTr := hs.2.2.1
  have h33 : ∀ j, j < 4 → bd (A 33 j) 40 := fun j hj => (hTr j hj).1
  have hI := hs.2.1.2.1
  have h28 := hisR_b hI
  have hkW := hg.2.2.2.1
  refine aj.aload_n dL_law_1060 rfl ?_
  refine aj.aload_n dL_law_1061 rfl ?_
  refine aj.iload_n dL_law_1062 rfl ?_
  refine aj.iconst (v := 1) dL_law_1063 rfl ?_
  refine aj.iaddN (a := 6 * k) (b := 1) dL_law_1064 rfl rfl ?_
  refine aj.sci hX (j := (6 * k) + 1) rfl (by omega) hL dL_law_1065 ?_
  refine aj.aload_n dL_law_1066 rfl ?_
  refine aj.iload_n dL_law_1067 rfl ?_
  refine aj.iconst (v := 2) dL_law_1068 rfl ?_
  refine aj.iaddN (a := 6 * k) (b := 2) dL_law_1069 rfl rfl ?_
  refine aj.sci hX (j := (6 * k) + 2) rfl (by omega) hL dL_law_1070 ?_
  refine aj.aload_n dL_law_1071 rfl ?_
  refine aj.iload_n dL_law_1072 rfl ?_
  refine aj.iconst (v := 3) dL_law_1073 rfl ?_
  refine aj.iaddN (a := 6 * k) (b := 3) dL_law_1074 rfl rfl ?_
  refine aj.sci hX (j := (6 * k) + 3) rfl (by omega) hL dL_law_1075 ?_
  refine aj.callE1 (d' := 7) (bc := bc) (bs := bs) (kc := 0) (ks := 0) (As := [.int (xs ((6 * k) + 1)), .int (xs ((6 * k) + 2)), .int (xs ((6 * k) + 3))]) (rest := []) dL_law_1076 v_L_135 li_X11_round hg.obC rfl rfl rfl (Nat.le_of_ble_eq_true rfl) (Nat.le_of_ble_eq_true rfl) (p_round ((xs ((6 * k) + 1))) ((xs ((6 * k) + 2))) ((xs ((6 * k) + 3))) hkW hH ) (fun M1 hM => ?_)
  obtain ⟨hg1, hk1⟩ := hg.c hM rfl
  refine aj.aload_n dL_law_1079 rfl ?_
  refine aj.aload_n dL_law_1080 rfl ?_
  refine aj.iload_n dL_law_1081 rfl ?_
  refine aj.iconst (v := 1) dL_law_1082 rfl ?_
  refine aj.iaddN (a := 6 * k) (b := 1) dL_law_1083 rfl rfl ?_
  refine aj.sci hX (j := (6 * k) + 1) rfl (by omega) hL dL_law_1084 ?_
  refine aj.aload_n dL_law_1085 rfl ?_
  refine aj.iload_n dL_law_1086 rfl ?_
  refine aj.iconst (v := 2) dL_law_1087 rfl ?_
  refine aj.iaddN (a := 6 * k) (b := 2) dL_law_1088 rfl rfl ?_
  refine aj.sci hX (j := (6 * k) + 2) rfl (by omega) hL dL_law_1089 ?_
  refine aj.aload_n dL_law_1090 rfl ?_
  refine aj.iload_n dL_law_1091 rfl ?_
  refine aj.iconst (v := 3) dL_law_1092 rfl ?_
  refine aj.iaddN (a := 6 * k) (b := 3) dL_law_1093 rfl rfl ?_
  refine aj.sci hX (j := (6 * k) + 3) rfl (by omega) hL dL_law_1094 ?_
  refine aj.callE1 (d' := 83) (bc := bc) (bs := bs) (kc := 0) (ks := 0) (As := [.int (xs ((6 * k) + 1)), .int (xs ((6 * k) + 2)), .int (xs ((6 * k) + 3))]) (rest := [.long _]) dL_law_1095 v_L_139 li_X12_round hg1.obR rfl rfl rfl (Nat.le_of_ble_eq_true rfl) (Nat.le_of_ble_eq_true rfl) (q_round ((xs ((6 * k) + 1))) ((xs ((6 * k) + 2))) ((xs ((6 * k) + 3))) hg1.2.2.2.2.1 hB) (fun M2 hM => ?_)
  obtain ⟨I', A', L', hM, ⟨i5, i13, i14⟩, ⟨a1, a2, a3, a32, a33⟩, l34⟩ := hM
  obtain ⟨hg2, hk2⟩ := hg1.r hM
  refine aj.lif_eq (tgt := 1694) dL_law_1098 dL_law_1099 rfl (fun c1098 => ?_) (fun c1098 => ?_)
  · refine aj.pick [0, 1, 2, 3] rfl ?_
    exact hn M2 ⟨t, n, V0, W0, R, I', A', L', hg2, ((hs.kp (hk1.trans hk2)).cong i5 i13 i14 a1 a2 a3 a32 a33 l34).more (by omega) hkT⟩
  · exact absurd (rfl) c1098
theorem lc_begins {G : zG} {l : Launch} {nm : String} {a b bS Ls k : Nat} {xs : Nat → Int32} {M : zM} {Q : Option Value → zM → Prop} {bc bs : Nat}  (hX : zX G bS Ls xs) (hL : Ls < 2 ^ 31) (hk6 : 6 * k + 6 ≤ Ls) (hkT : 100 * (k + 1) < 2 ^ 24) (hSt : lS a b M k) (hn : ∀ M', lS a b M' (k + 1) → aj G l (kL nm) 84 1694 [(3, .int (nI (6 * k))), (0, .ref bS), (1, .ref a), (2, .ref b)] [] M' bc bs Q) : aj G l (kL nm) 84 1104 [(3, .int (nI (6 * k))), (0, .ref bS), (1, .ref a), (2, .ref b)] [] M bc bs Q := by
  obtain ⟨t, n, V0, W0, R, I, A, L, hg, hs⟩ := hSt
  obtain ⟨T, sl, ol, hH⟩ := hs.cH
  have hB := hH.2.2.2
  have hTr := hs.2.2.1
  have h33 : ∀ j, j < 4 → bd (A 33 j) 40 := fun j hj => (hTr j hj).1
  have hI := hs.2.1.2.1
  have h28 := hisR_b hI
  have hkW := hg.2.2.2.1
  refine aj.aload_n dL_law_1104 rfl ?_
  refine aj.aload_n dL_law_1105 rfl ?_
  refine aj.iload_n dL_law_1106 rfl ?_
  refine aj.iconst (v := 1) dL_law_1107 rfl ?_
  refine aj.iaddN (a := 6 * k) (b := 1) dL_law_1108 rfl rfl ?_
  refine aj.sci hX (j := (6 * k) + 1) rfl (by omega) hL dL_law_1109 ?_
  refine aj.aload_n dL_law_1110 rfl ?_
  refine aj.iload_n dL_law_1111 rfl ?_
  refine aj.iconst (v := 2) dL_law_1112 rfl ?_
  refine aj.iaddN (a := 6 * k) (b := 2) dL_law_1113 rfl rfl ?_
  refine aj.sci hX (j := (6 * k) + 2) rfl (by omega) hL dL_law_1114 ?_
  refine aj.callE1 (d' := 7) (bc := bc) (bs := bs) (kc := 0) (ks := 0) (As := [.int (xs ((6 * k) + 1)), .int (xs ((6 * k) + 2))]) (rest := []) dL_law_1115 v_L_140 li_X11_begins hg.obC rfl rfl rfl (Nat.le_of_ble_eq_true rfl) (Nat.le_of_ble_eq_true rfl) (p_begins ((xs ((6 * k) + 1))) ((xs ((6 * k) + 2))) hkW hH ) (fun M1 hM => ?_)
  obtain ⟨hg1, hk1⟩ := hg.c hM rfl
  refine aj.aload_n dL_law_1118 rfl ?_
  refine aj.aload_n dL_law_1119 rfl ?_
  refine aj.iload_n dL_law_1120 rfl ?_
  refine aj.iconst (v := 1) dL_law_1121 rfl ?_
  refine aj.iaddN (a := 6 * k) (b := 1) dL_law_1122 rfl rfl ?_
  refine aj.sci hX (j := (6 * k) + 1) rfl (by omega) hL dL_law_1123 ?_
  refine aj.aload_n dL_law_1124 rfl ?_
  refine aj.iload_n dL_law_1125 rfl ?_
  refine aj.iconst (v := 2) dL_law_1126 rfl ?_
  refine aj.iaddN (a := 6 * k) (b := 2) dL_law_1127 rfl rfl ?_
  refine aj.sci hX (j := (6 * k) + 2) rfl (by omega) hL dL_law_1128 ?_
  refine aj.callE1 (d' := 13) (bc := bc) (bs := bs) (kc := 0) (ks := 0) (As := [.int (xs ((6 * k) + 1)), .int (xs ((6 * k) + 2))]) (rest := [.int _]) dL_law_1129 v_L_143 li_X12_begins hg1.obR rfl rfl rfl (Nat.le_of_ble_eq_true rfl) (Nat.le_of_ble_eq_true rfl) (q_begins ((xs ((6 * k) + 1))) ((xs ((6 * k) + 2))) hg1.2.2.2.2.1 hB) (fun M2 hM => ?_)
  obtain ⟨I', A', L', hM, ⟨i5, i13, i14⟩, ⟨a1, a2, a3, a32, a33⟩, l34⟩ := hM
  obtain ⟨hg2, hk2⟩ := hg1.r hM
  refine aj.icmp_eq (tgt := 1694) dL_law_1132 rfl (fun c1132 => ?_) (fun c1132 => ?_)
  · refine aj.pick [0, 1, 2, 3] rfl ?_
    exact hn M2 ⟨t, n, V0, W0, R, I', A', L', hg2, ((hs.kp (hk1.trans hk2)).cong i5 i13 i14 a1 a2 a3 a32 a33 l34).more (by omega) hkT⟩
  · exact absurd (rfl) c1132
theorem lc_judge {G : zG} {l : Launch} {nm : String} {a b bS Ls k : Nat} {xs : Nat → Int32} {M : zM} {Q : Option Value → zM → Prop} {bc bs : Nat}  (hX : zX G bS Ls xs) (hL : Ls < 2 ^ 31) (hk6 : 6 * k + 6 ≤ Ls) (hkT : 100 * (k + 1) < 2 ^ 24) (hSt : lS a b M k) (hn : ∀ M', lS a b M' (k + 1) → aj G l (kL nm) 84 1694 [(3, .int (nI (6 * k))), (0, .ref bS), (1, .ref a), (2, .ref b)] [] M' bc bs Q) : aj G l (kL nm) 84 657 [(3, .int (nI (6 * k))), (0, .ref bS), (1, .ref a), (2, .ref b)] [] M bc bs Q := by
  have hT40 : 100 * k + 40 < 2 ^ 24 := by omega
  obtain ⟨t, n, V0, W0, R, I, A, L, hg, hs⟩ := hSt
  obtain ⟨T, sl, ol, hH⟩ := hs.cH
  have hB := hH.2.2.2
  have hTr := hs.2.2.1
  have h33 : ∀ j, j < 4 → bd (A 33 j) 40 := fun j hj => (hTr j hj).1
  have hI := hs.2.1.2.1
  have h28 := hisR_b hI
  have hkW := hg.2.2.2.1
  refine aj.aload_n dL_law_657 rfl ?_
  refine aj.aload_n dL_law_658 rfl ?_
  refine aj.iload_n dL_law_659 rfl ?_
  refine aj.iconst (v := 1) dL_law_660 rfl ?_
  refine aj.iaddN (a := 6 * k) (b := 1) dL_law_661 rfl rfl ?_
  refine aj.sci hX (j := (6 * k) + 1) rfl (by omega) hL dL_law_662 ?_
  refine aj.aload_n dL_law_663 rfl ?_
  refine aj.iload_n dL_law_664 rfl ?_
  refine aj.iconst (v := 2) dL_law_665 rfl ?_
  refine aj.iaddN (a := 6 * k) (b := 2) dL_law_666 rfl rfl ?_
  refine aj.sci hX (j := (6 * k) + 2) rfl (by omega) hL dL_law_667 ?_
  refine aj.callE1 (d' := 8) (bc := bc) (bs := bs) (kc := 0) (ks := 0) (As := [.int (xs ((6 * k) + 1)), .int (xs ((6 * k) + 2))]) (rest := []) dL_law_668 v_L_78 li_X11_judge hg.obC rfl rfl rfl (Nat.le_of_ble_eq_true rfl) (Nat.le_of_ble_eq_true rfl) (p_judge ((xs ((6 * k) + 1))) ((xs ((6 * k) + 2))) hkW hH hTr hT40) (fun M1 hM => ?_)
  obtain ⟨hg1, hk1⟩ := hg.c hM rfl
  refine aj.aload_n dL_law_671 rfl ?_
  refine aj.aload_n dL_law_672 rfl ?_
  refine aj.iload_n dL_law_673 rfl ?_
  refine aj.iconst (v := 1) dL_law_674 rfl ?_
  refine aj.iaddN (a := 6 * k) (b := 1) dL_law_675 rfl rfl ?_
  refine aj.sci hX (j := (6 * k) + 1) rfl (by omega) hL dL_law_676 ?_
  refine aj.aload_n dL_law_677 rfl ?_
  refine aj.iload_n dL_law_678 rfl ?_
  refine aj.iconst (v := 2) dL_law_679 rfl ?_
  refine aj.iaddN (a := 6 * k) (b := 2) dL_law_680 rfl rfl ?_
  refine aj.sci hX (j := (6 * k) + 2) rfl (by omega) hL dL_law_681 ?_
  refine aj.callE1 (d' := 7) (bc := bc) (bs := bs) (kc := 0) (ks := 0) (As := [.int (xs ((6 * k) + 1)), .int (xs ((6 * k) + 2))]) (rest := [.int _]) dL_law_682 v_L_81 li_X12_judge hg1.obR rfl rfl rfl (Nat.le_of_ble_eq_true rfl) (Nat.le_of_ble_eq_true rfl) (q_judge ((xs ((6 * k) + 1))) ((xs ((6 * k) + 2))) hg1.2.2.2.2.1 h28 h33 hT40 hB) (fun M2 hM => ?_)
  obtain ⟨I', A', hM, i19, a1, ax⟩ := hM
  obtain ⟨hg2, hk2⟩ := hg1.r hM
  refine aj.icmp_eq (tgt := 1694) dL_law_685 rfl (fun c685 => ?_) (fun c685 => ?_)
  · refine aj.pick [0, 1, 2, 3] rfl ?_
    exact hn M2 ⟨t, n, V0, W0, R, I', A', L, hg2, ((hs.kp (hk1.trans hk2)).cong (i19 5 (by decide)) (i19 13 (by decide)) (i19 14 (by decide)) a1 (ax 2 (by decide) (by decide)) (ax 3 (by decide) (by decide)) (ax 32 (by decide) (by decide)) (ax 33 (by decide) (by decide)) rfl).more (by omega) hkT⟩
  · exact absurd (rfl) c685
