section
variable {K : am_K} {X : Nat → am_C}
set_option maxRecDepth 100000 in
set_option maxHeartbeats 4000000 in
theorem law_end (O : am_ok K X) {nm : String} {xs : Nat → Int32} {post : Option Value → am_H → Prop} (XS : va_T .int (am_ad K 0) 6 (fun j => .int (xs j)) (am_A K) K.1 K.1.heap) {uc us : Nat} {h : am_H} (hp : post (some (.int 1)) h) : am_W K X (m_Law_law nm) 100 600000 7302250 uc us 320 [(0, .ref 0), (1, .ref 128), (2, .ref 160), (3, .int 0)] [] h post := by
  refine am_iinc (v := 6) d_Law_law_320 rfl (by decide) (Nat.le_of_ble_eq_true rfl) ?_
  refine am_goto (tgt := 18) d_Law_law_323 (by decide) ?_
  refine am_locs (lv' := [(0, .ref 0), (3, .int 6)]) rfl ?_
  refine am_iload_n d_Law_law_18 rfl rfl ?_
  refine am_aload_n d_Law_law_19 rfl rfl ?_
  refine am_alenE XS d_Law_law_20 ?_
  refine am_bipush (v := 6) d_Law_law_21 (by decide) ?_
  refine am_isub d_Law_law_23 ?_
  refine am_topi (v := 0) (by decide) ?_
  refine am_icmp_gt (tgt := 326) d_Law_law_24 (by decide) (fun _ => ?_) (fun c => absurd (by decide) c)
  refine am_iconst (v := 1) d_Law_law_326 (by decide) ?_
  exact am_zret (ty := .boolean) rfl rfl d_Law_law_327 hp

set_option maxRecDepth 100000 in
set_option maxHeartbeats 4000000 in
theorem law_feed (O : am_ok K X) {nm : String} {aL : Nat → Int64} {xs : Nat → Int32} {post : Option Value → am_H → Prop} (XS : va_T .int (am_ad K 0) 6 (fun j => .int (xs j)) (am_A K) K.1 K.1.heap)  (hpost : ∀ h, post (some (.int 1)) h) : am_W K X (m_Law_law nm) 100 600000 7302250 1183 601315 88 [(0, .ref 0), (1, .ref 128), (2, .ref 160), (3, .int 0)] [] (1311, p1_f X aL) post := by
  refine am_aload_n d_Law_law_88 rfl rfl ?_
  refine am_aload_n d_Law_law_89 rfl rfl ?_
  refine am_iload_n d_Law_law_90 rfl rfl ?_
  refine am_iconst (v := 1) d_Law_law_91 (by decide) ?_
  refine am_iadd d_Law_law_92 ?_
  refine am_topi (v := 1) (by decide) ?_
  refine am_ialdE (f := fun j => .int (xs j)) (v := .int (xs 1)) XS d_Law_law_93 (am_in (by decide) (by decide)) rfl ?_
  refine am_aload_n d_Law_law_94 rfl rfl ?_
  refine am_iload_n d_Law_law_95 rfl rfl ?_
  refine am_iconst (v := 2) d_Law_law_96 (by decide) ?_
  refine am_iadd d_Law_law_97 ?_
  refine am_topi (v := 2) (by decide) ?_
  refine am_ialdE (f := fun j => .int (xs j)) (v := .int (xs 2)) XS d_Law_law_98 (am_in (by decide) (by decide)) rfl ?_
  refine am_aload_n d_Law_law_99 rfl rfl ?_
  refine am_iload_n d_Law_law_100 rfl rfl ?_
  refine am_iconst (v := 3) d_Law_law_101 (by decide) ?_
  refine am_iadd d_Law_law_102 ?_
  refine am_topi (v := 3) (by decide) ?_
  refine am_ialdE (f := fun j => .int (xs j)) (v := .int (xs 3)) XS d_Law_law_103 (am_in (by decide) (by decide)) rfl ?_
  refine am_aload_n d_Law_law_104 rfl rfl ?_
  refine am_iload_n d_Law_law_105 rfl rfl ?_
  refine am_iconst (v := 4) d_Law_law_106 (by decide) ?_
  refine am_iadd d_Law_law_107 ?_
  refine am_topi (v := 4) (by decide) ?_
  refine am_ialdE (f := fun j => .int (xs j)) (v := .int (xs 4)) XS d_Law_law_108 (am_in (by decide) (by decide)) rfl ?_
  refine am_aload_n d_Law_law_109 rfl rfl ?_
  refine am_iload_n d_Law_law_110 rfl rfl ?_
  refine am_iconst (v := 5) d_Law_law_111 (by decide) ?_
  refine am_iadd d_Law_law_112 ?_
  refine am_topi (v := 5) (by decide) ?_
  refine am_ialdE (f := fun j => .int (xs j)) (v := .int (xs 5)) XS d_Law_law_113 (am_in (by decide) (by decide)) rfl ?_
  refine am_callV O (a_feed_c O (by exact q_128) (by exact q_129)) rfl (by exact q_128) (by decide) (by decide) rfl rfl l_Law_13 ⟨w_527, w_528⟩ rfl (Nat.le_of_ble_eq_true rfl) d_Law_law_114 (by omega) (by omega) (by omega) (fun v h' hp => ?_)
  obtain ⟨n1, f1⟩ := h'
  obtain ⟨rfl, e1, g_129, g_128, fr1⟩ := hp
  obtain rfl : n1 = 1311 := e1
  have fr1 := fun (x : Nat) (hx : x ∉ ([129, 128] : List Nat)) => (show f1 x = _ from fr1 x hx)
  have h_160 : f1 160 = .inr (14, [.ref 161, .ref 162, .int 0, .int 0, .int 0, .int 0, .int 0, .int 0, .int 0, .int 0, .int 0, .long 0, .ref 163, .ref 170, .ref 171, .ref 172, .ref 173, .ref 174, .ref 175, .ref 176, .int 0, .ref 177, .null, .ref 184, .int 0, .int 0, .ref 185, .int 0, .ref 186, .int 0, .ref 187, .ref 204, .ref 221, .ref 238, .int 0, .int 0, .ref 239, .ref 240, .ref 245, .ref 250, .ref 255, .int 0, .int 0, .int 0, .int 0, .int 0, .int 0, .ref 260, .ref 261, .ref 262, .ref 263, .ref 264, .int 0]) := (fr1 160 (by decide)).trans q_160
  have h_161 : f1 161 = .inl (.byte, 1500, (fun _ => .int 0)) := (fr1 161 (by decide)).trans q_161
  refine am_aload_n d_Law_law_117 rfl rfl ?_
  refine am_aload_n d_Law_law_118 rfl rfl ?_
  refine am_iload_n d_Law_law_119 rfl rfl ?_
  refine am_iconst (v := 1) d_Law_law_120 (by decide) ?_
  refine am_iadd d_Law_law_121 ?_
  refine am_topi (v := 1) (by decide) ?_
  refine am_ialdE (f := fun j => .int (xs j)) (v := .int (xs 1)) XS d_Law_law_122 (am_in (by decide) (by decide)) rfl ?_
  refine am_aload_n d_Law_law_123 rfl rfl ?_
  refine am_iload_n d_Law_law_124 rfl rfl ?_
  refine am_iconst (v := 2) d_Law_law_125 (by decide) ?_
  refine am_iadd d_Law_law_126 ?_
  refine am_topi (v := 2) (by decide) ?_
  refine am_ialdE (f := fun j => .int (xs j)) (v := .int (xs 2)) XS d_Law_law_127 (am_in (by decide) (by decide)) rfl ?_
  refine am_aload_n d_Law_law_128 rfl rfl ?_
  refine am_iload_n d_Law_law_129 rfl rfl ?_
  refine am_iconst (v := 3) d_Law_law_130 (by decide) ?_
  refine am_iadd d_Law_law_131 ?_
  refine am_topi (v := 3) (by decide) ?_
  refine am_ialdE (f := fun j => .int (xs j)) (v := .int (xs 3)) XS d_Law_law_132 (am_in (by decide) (by decide)) rfl ?_
  refine am_aload_n d_Law_law_133 rfl rfl ?_
  refine am_iload_n d_Law_law_134 rfl rfl ?_
  refine am_iconst (v := 4) d_Law_law_135 (by decide) ?_
  refine am_iadd d_Law_law_136 ?_
  refine am_topi (v := 4) (by decide) ?_
  refine am_ialdE (f := fun j => .int (xs j)) (v := .int (xs 4)) XS d_Law_law_137 (am_in (by decide) (by decide)) rfl ?_
  refine am_aload_n d_Law_law_138 rfl rfl ?_
  refine am_iload_n d_Law_law_139 rfl rfl ?_
  refine am_iconst (v := 5) d_Law_law_140 (by decide) ?_
  refine am_iadd d_Law_law_141 ?_
  refine am_topi (v := 5) (by decide) ?_
  refine am_ialdE (f := fun j => .int (xs j)) (v := .int (xs 5)) XS d_Law_law_142 (am_in (by decide) (by decide)) rfl ?_
  refine am_callV O (a_feed_m O (by exact h_160) (by exact h_161)) rfl (by exact h_160) (by decide) (by decide) rfl rfl l_Law_17 ⟨w_1783, w_1784⟩ rfl (Nat.le_of_ble_eq_true rfl) d_Law_law_143 (by omega) (by omega) (by omega) (fun v h' hp => ?_)
  obtain ⟨rfl, -⟩ := hp
  refine am_icmp_eq (tgt := 320) d_Law_law_146 (by decide) (fun _ => ?_) (fun c => absurd rfl c)
  exact law_end O XS (hpost _)

set_option maxRecDepth 100000 in
set_option maxHeartbeats 4000000 in
theorem law_end0 (O : am_ok K X) {nm : String} {aL : Nat → Int64} {xs : Nat → Int32} {post : Option Value → am_H → Prop} (XS : va_T .int (am_ad K 0) 6 (fun j => .int (xs j)) (am_A K) K.1 K.1.heap) (hx : xs 1 = 0) (hpost : ∀ h, post (some (.int 1)) h) : am_W K X (m_Law_law nm) 100 600000 7302250 1183 601315 151 [(0, .ref 0), (1, .ref 128), (2, .ref 160), (3, .int 0)] [] (1311, p1_f X aL) post := by
  refine am_aload_n d_Law_law_151 rfl rfl ?_
  refine am_aload_n d_Law_law_152 rfl rfl ?_
  refine am_iload_n d_Law_law_153 rfl rfl ?_
  refine am_iconst (v := 1) d_Law_law_154 (by decide) ?_
  refine am_iadd d_Law_law_155 ?_
  refine am_topi (v := 1) (by decide) ?_
  refine am_ialdE (f := fun j => .int (xs j)) (v := .int 0) XS d_Law_law_156 (am_in (by decide) (by decide)) (by show Value.int (xs 1) = _; rw [hx]) ?_
  refine am_callV O (a_end0_c O (by exact q_128)) rfl (by exact q_128) (by decide) (by decide) rfl rfl l_Law_18 ⟨w_535, w_536⟩ rfl (Nat.le_of_ble_eq_true rfl) d_Law_law_157 (by omega) (by omega) (by omega) (fun v h' hp => ?_)
  obtain ⟨n1, f1⟩ := h'
  obtain ⟨rfl, e1, g_128, fr1⟩ := hp
  obtain rfl : n1 = 1311 := e1
  have fr1 := fun (x : Nat) (hx : x ∉ ([128] : List Nat)) => (show f1 x = _ from fr1 x hx)
  have h_160 : f1 160 = .inr (14, [.ref 161, .ref 162, .int 0, .int 0, .int 0, .int 0, .int 0, .int 0, .int 0, .int 0, .int 0, .long 0, .ref 163, .ref 170, .ref 171, .ref 172, .ref 173, .ref 174, .ref 175, .ref 176, .int 0, .ref 177, .null, .ref 184, .int 0, .int 0, .ref 185, .int 0, .ref 186, .int 0, .ref 187, .ref 204, .ref 221, .ref 238, .int 0, .int 0, .ref 239, .ref 240, .ref 245, .ref 250, .ref 255, .int 0, .int 0, .int 0, .int 0, .int 0, .int 0, .ref 260, .ref 261, .ref 262, .ref 263, .ref 264, .int 0]) := (fr1 160 (by decide)).trans q_160
  refine am_aload_n d_Law_law_160 rfl rfl ?_
  refine am_aload_n d_Law_law_161 rfl rfl ?_
  refine am_iload_n d_Law_law_162 rfl rfl ?_
  refine am_iconst (v := 1) d_Law_law_163 (by decide) ?_
  refine am_iadd d_Law_law_164 ?_
  refine am_topi (v := 1) (by decide) ?_
  refine am_ialdE (f := fun j => .int (xs j)) (v := .int 0) XS d_Law_law_165 (am_in (by decide) (by decide)) (by show Value.int (xs 1) = _; rw [hx]) ?_
  refine am_callV O (a_end0_m O (by exact h_160)) rfl (by exact h_160) (by decide) (by decide) rfl rfl l_Law_22 ⟨w_1787, w_1788⟩ rfl (Nat.le_of_ble_eq_true rfl) d_Law_law_166 (by omega) (by omega) (by omega) (fun v h' hp => ?_)
  obtain ⟨rfl, -⟩ := hp
  refine am_icmp_eq (tgt := 320) d_Law_law_169 (by decide) (fun _ => ?_) (fun c => absurd rfl c)
  exact law_end O XS (hpost _)

set_option maxRecDepth 100000 in
set_option maxHeartbeats 4000000 in
theorem law_endn (O : am_ok K X) {nm : String} {aL : Nat → Int64} {xs : Nat → Int32} {post : Option Value → am_H → Prop} (XS : va_T .int (am_ad K 0) 6 (fun j => .int (xs j)) (am_A K) K.1 K.1.heap) (hx : (xs 1).toInt < 0) (hpost : ∀ h, post (some (.int 1)) h) : am_W K X (m_Law_law nm) 100 600000 7302250 1183 601315 151 [(0, .ref 0), (1, .ref 128), (2, .ref 160), (3, .int 0)] [] (1311, p1_f X aL) post := by
  refine am_aload_n d_Law_law_151 rfl rfl ?_
  refine am_aload_n d_Law_law_152 rfl rfl ?_
  refine am_iload_n d_Law_law_153 rfl rfl ?_
  refine am_iconst (v := 1) d_Law_law_154 (by decide) ?_
  refine am_iadd d_Law_law_155 ?_
  refine am_topi (v := 1) (by decide) ?_
  refine am_ialdE (f := fun j => .int (xs j)) (v := .int (xs 1)) XS d_Law_law_156 (am_in (by decide) (by decide)) rfl ?_
  refine am_callV O (a_endn_c O hx) rfl (by exact q_128) (by decide) (by decide) rfl rfl l_Law_18 ⟨w_535, w_536⟩ rfl (Nat.le_of_ble_eq_true rfl) d_Law_law_157 (by omega) (by omega) (by omega) (fun v h' hp => ?_)
  obtain ⟨rfl, rfl⟩ := hp
  refine am_aload_n d_Law_law_160 rfl rfl ?_
  refine am_aload_n d_Law_law_161 rfl rfl ?_
  refine am_iload_n d_Law_law_162 rfl rfl ?_
  refine am_iconst (v := 1) d_Law_law_163 (by decide) ?_
  refine am_iadd d_Law_law_164 ?_
  refine am_topi (v := 1) (by decide) ?_
  refine am_ialdE (f := fun j => .int (xs j)) (v := .int (xs 1)) XS d_Law_law_165 (am_in (by decide) (by decide)) rfl ?_
  refine am_callV O (a_endn_m O hx (by exact q_160)) rfl (by exact q_160) (by decide) (by decide) rfl rfl l_Law_22 ⟨w_1787, w_1788⟩ rfl (Nat.le_of_ble_eq_true rfl) d_Law_law_166 (by omega) (by omega) (by omega) (fun v h' hp => ?_)
  obtain ⟨rfl, rfl⟩ := hp
  refine am_icmp_eq (tgt := 320) d_Law_law_169 (by decide) (fun _ => ?_) (fun c => absurd rfl c)
  exact law_end O XS (hpost _)

set_option maxRecDepth 100000 in
set_option maxHeartbeats 4000000 in
theorem law_endp (O : am_ok K X) {nm : String} {aL : Nat → Int64} {xs : Nat → Int32} {post : Option Value → am_H → Prop} (XS : va_T .int (am_ad K 0) 6 (fun j => .int (xs j)) (am_A K) K.1 K.1.heap) (hx : 0 < (xs 1).toInt) (hpost : ∀ h, post (some (.int 1)) h) : am_W K X (m_Law_law nm) 100 600000 7302250 1183 601315 151 [(0, .ref 0), (1, .ref 128), (2, .ref 160), (3, .int 0)] [] (1311, p1_f X aL) post := by
  refine am_aload_n d_Law_law_151 rfl rfl ?_
  refine am_aload_n d_Law_law_152 rfl rfl ?_
  refine am_iload_n d_Law_law_153 rfl rfl ?_
  refine am_iconst (v := 1) d_Law_law_154 (by decide) ?_
  refine am_iadd d_Law_law_155 ?_
  refine am_topi (v := 1) (by decide) ?_
  refine am_ialdE (f := fun j => .int (xs j)) (v := .int (xs 1)) XS d_Law_law_156 (am_in (by decide) (by decide)) rfl ?_
  refine am_callV O (a_endp_c O hx (by exact q_128)) rfl (by exact q_128) (by decide) (by decide) rfl rfl l_Law_18 ⟨w_535, w_536⟩ rfl (Nat.le_of_ble_eq_true rfl) d_Law_law_157 (by omega) (by omega) (by omega) (fun v h' hp => ?_)
  obtain ⟨rfl, rfl⟩ := hp
  refine am_aload_n d_Law_law_160 rfl rfl ?_
  refine am_aload_n d_Law_law_161 rfl rfl ?_
  refine am_iload_n d_Law_law_162 rfl rfl ?_
  refine am_iconst (v := 1) d_Law_law_163 (by decide) ?_
  refine am_iadd d_Law_law_164 ?_
  refine am_topi (v := 1) (by decide) ?_
  refine am_ialdE (f := fun j => .int (xs j)) (v := .int (xs 1)) XS d_Law_law_165 (am_in (by decide) (by decide)) rfl ?_
  refine am_callV O (a_endp_m O hx (by exact q_160)) rfl (by exact q_160) (by decide) (by decide) rfl rfl l_Law_22 ⟨w_1787, w_1788⟩ rfl (Nat.le_of_ble_eq_true rfl) d_Law_law_166 (by omega) (by omega) (by omega) (fun v h' hp => ?_)
  obtain ⟨rfl, rfl⟩ := hp
  refine am_icmp_eq (tgt := 320) d_Law_law_169 (by decide) (fun _ => ?_) (fun c => absurd rfl c)
  exact law_end O XS (hpost _)

set_option maxRecDepth 100000 in
set_option maxHeartbeats 4000000 in
theorem law_runn (O : am_ok K X) {nm : String} {aL : Nat → Int64} {xs : Nat → Int32} {post : Option Value → am_H → Prop} (XS : va_T .int (am_ad K 0) 6 (fun j => .int (xs j)) (am_A K) K.1 K.1.heap) (hx : (xs 1).toInt < 0) (hpost : ∀ h, post (some (.int 1)) h) : am_W K X (m_Law_law nm) 100 600000 7302250 1183 601315 174 [(0, .ref 0), (1, .ref 128), (2, .ref 160), (3, .int 0)] [] (1311, p1_f X aL) post := by
  refine am_aload_n d_Law_law_174 rfl rfl ?_
  refine am_aload_n d_Law_law_175 rfl rfl ?_
  refine am_iload_n d_Law_law_176 rfl rfl ?_
  refine am_iconst (v := 1) d_Law_law_177 (by decide) ?_
  refine am_iadd d_Law_law_178 ?_
  refine am_topi (v := 1) (by decide) ?_
  refine am_ialdE (f := fun j => .int (xs j)) (v := .int (xs 1)) XS d_Law_law_179 (am_in (by decide) (by decide)) rfl ?_
  refine am_callV O (a_runn_c O hx) rfl (by exact q_128) (by decide) (by decide) rfl rfl l_Law_23 ⟨w_539, w_540⟩ rfl (Nat.le_of_ble_eq_true rfl) d_Law_law_180 (by omega) (by omega) (by omega) (fun v h' hp => ?_)
  obtain ⟨rfl, rfl⟩ := hp
  refine am_aload_n d_Law_law_183 rfl rfl ?_
  refine am_aload_n d_Law_law_184 rfl rfl ?_
  refine am_iload_n d_Law_law_185 rfl rfl ?_
  refine am_iconst (v := 1) d_Law_law_186 (by decide) ?_
  refine am_iadd d_Law_law_187 ?_
  refine am_topi (v := 1) (by decide) ?_
  refine am_ialdE (f := fun j => .int (xs j)) (v := .int (xs 1)) XS d_Law_law_188 (am_in (by decide) (by decide)) rfl ?_
  refine am_callV O (a_runn_m O hx) rfl (by exact q_160) (by decide) (by decide) rfl rfl l_Law_26 ⟨w_1794, w_1795⟩ rfl (Nat.le_of_ble_eq_true rfl) d_Law_law_189 (by omega) (by omega) (by omega) (fun v h' hp => ?_)
  obtain ⟨rfl, rfl⟩ := hp
  refine am_icmp_eq (tgt := 320) d_Law_law_192 (by decide) (fun _ => ?_) (fun c => absurd rfl c)
  exact law_end O XS (hpost _)

set_option maxRecDepth 100000 in
set_option maxHeartbeats 4000000 in
theorem law_runp (O : am_ok K X) {nm : String} {aL : Nat → Int64} {xs : Nat → Int32} {post : Option Value → am_H → Prop} (XS : va_T .int (am_ad K 0) 6 (fun j => .int (xs j)) (am_A K) K.1 K.1.heap) (hx : 2000 < (xs 1).toInt) (hpost : ∀ h, post (some (.int 1)) h) : am_W K X (m_Law_law nm) 100 600000 7302250 1183 601315 174 [(0, .ref 0), (1, .ref 128), (2, .ref 160), (3, .int 0)] [] (1311, p1_f X aL) post := by
  refine am_aload_n d_Law_law_174 rfl rfl ?_
  refine am_aload_n d_Law_law_175 rfl rfl ?_
  refine am_iload_n d_Law_law_176 rfl rfl ?_
  refine am_iconst (v := 1) d_Law_law_177 (by decide) ?_
  refine am_iadd d_Law_law_178 ?_
  refine am_topi (v := 1) (by decide) ?_
  refine am_ialdE (f := fun j => .int (xs j)) (v := .int (xs 1)) XS d_Law_law_179 (am_in (by decide) (by decide)) rfl ?_
  refine am_callV O (a_runp_c O hx) rfl (by exact q_128) (by decide) (by decide) rfl rfl l_Law_23 ⟨w_539, w_540⟩ rfl (Nat.le_of_ble_eq_true rfl) d_Law_law_180 (by omega) (by omega) (by omega) (fun v h' hp => ?_)
  obtain ⟨rfl, rfl⟩ := hp
  refine am_aload_n d_Law_law_183 rfl rfl ?_
  refine am_aload_n d_Law_law_184 rfl rfl ?_
  refine am_iload_n d_Law_law_185 rfl rfl ?_
  refine am_iconst (v := 1) d_Law_law_186 (by decide) ?_
  refine am_iadd d_Law_law_187 ?_
  refine am_topi (v := 1) (by decide) ?_
  refine am_ialdE (f := fun j => .int (xs j)) (v := .int (xs 1)) XS d_Law_law_188 (am_in (by decide) (by decide)) rfl ?_
  refine am_callV O (a_runp_m O hx) rfl (by exact q_160) (by decide) (by decide) rfl rfl l_Law_26 ⟨w_1794, w_1795⟩ rfl (Nat.le_of_ble_eq_true rfl) d_Law_law_189 (by omega) (by omega) (by omega) (fun v h' hp => ?_)
  obtain ⟨rfl, rfl⟩ := hp
  refine am_icmp_eq (tgt := 320) d_Law_law_192 (by decide) (fun _ => ?_) (fun c => absurd rfl c)
  exact law_end O XS (hpost _)

set_option maxRecDepth 100000 in
set_option maxHeartbeats 4000000 in
theorem law_run (O : am_ok K X) {nm : String} {aL : Nat → Int64} {xs : Nat → Int32} {post : Option Value → am_H → Prop} (XS : va_T .int (am_ad K 0) 6 (fun j => .int (xs j)) (am_A K) K.1 K.1.heap) (hx : 0 ≤ (xs 1).toInt ∧ (xs 1).toInt ≤ 2000) (hpost : ∀ h, post (some (.int 1)) h) : am_W K X (m_Law_law nm) 100 600000 7302250 1183 601315 174 [(0, .ref 0), (1, .ref 128), (2, .ref 160), (3, .int 0)] [] (1311, p1_f X aL) post := by
  refine am_aload_n d_Law_law_174 rfl rfl ?_
  refine am_aload_n d_Law_law_175 rfl rfl ?_
  refine am_iload_n d_Law_law_176 rfl rfl ?_
  refine am_iconst (v := 1) d_Law_law_177 (by decide) ?_
  refine am_iadd d_Law_law_178 ?_
  refine am_topi (v := 1) (by decide) ?_
  refine am_ialdE (f := fun j => .int (xs j)) (v := .int (xs 1)) XS d_Law_law_179 (am_in (by decide) (by decide)) rfl ?_
  refine am_callV O (a_run_c O hx (by exact q_128) (by exact q_129) (by exact q_130) (by exact q_132) (by exact q_133) (by exact q_136) (by exact q_137) (by exact q_138) (by exact q_144) (by exact q_148) (by exact q_149) (by exact q_150) (by exact q_154) (by exact q_155) (by exact q_156)) rfl (by exact q_128) (by decide) (by decide) rfl rfl l_Law_23 ⟨w_539, w_540⟩ rfl (Nat.le_of_ble_eq_true rfl) d_Law_law_180 (by omega) (by omega) (by omega) (fun v h' hp => ?_)
  obtain ⟨n1, f1⟩ := h'
  obtain ⟨rfl, e1, g_133, g_132, g_144, g_136, g_137, g_1311, g_1312, g_1313, g_128, g_130, g_1314, g_1315, g_1316, g_1317, g_1318, g_1319, g_1320, g_1321, g_155, g_1322, g_1323, g_1324, g_1325, g_1326, g_1327, g_1328, g_1329, g_148, g_149, g_150, g_154, g_156, fr1⟩ := hp
  obtain rfl : n1 = 1330 := e1
  have fr1 := fun (x : Nat) (hx : x ∉ ([133, 132, 144, 136, 137, 1311, 1312, 1313, 128, 130, 1314, 1315, 1316, 1317, 1318, 1319, 1320, 1321, 155, 1322, 1323, 1324, 1325, 1326, 1327, 1328, 1329, 148, 149, 150, 154, 156] : List Nat)) => (show f1 x = _ from fr1 x hx)
  have h_256 : f1 256 = .inl (.int, 4, (fun _ => .int 0)) := (fr1 256 (by decide)).trans q_256
  have h_257 : f1 257 = .inl (.int, 4, (fun _ => .int 0)) := (fr1 257 (by decide)).trans q_257
  have h_258 : f1 258 = .inl (.long, 4, (fun _ => .long 0)) := (fr1 258 (by decide)).trans q_258
  have h_259 : f1 259 = .inl (.long, 4, (fun _ => .long 0)) := (fr1 259 (by decide)).trans q_259
  have h_260 : f1 260 = .inl (.object "StowTongueModel$Code", 9, (fun _ => .null)) := (fr1 260 (by decide)).trans q_260
  have h_261 : f1 261 = .inl (.int, 9, (fun _ => .int 0)) := (fr1 261 (by decide)).trans q_261
  have h_262 : f1 262 = .inl (.int, 9, (fun _ => .int 0)) := (fr1 262 (by decide)).trans q_262
  have h_265 : f1 265 = .inr (13, [.ref 266, .ref 267, .ref 268, .ref 269, .ref 270, .ref 271, .ref 276, .ref 281, .int 0, .int 0, .int 0, .int 0]) := (fr1 265 (by decide)).trans q_265
  have h_266 : f1 266 = .inl (.int, 100, (fun _ => .int 0)) := (fr1 266 (by decide)).trans q_266
  have h_267 : f1 267 = .inl (.int, 100, (fun _ => .int 0)) := (fr1 267 (by decide)).trans q_267
  have h_268 : f1 268 = .inl (.long, 800, (fun _ => .long 0)) := (fr1 268 (by decide)).trans q_268
  have h_269 : f1 269 = .inl (.long, 12, (fun _ => .long 0)) := (fr1 269 (by decide)).trans q_269
  have h_270 : f1 270 = .inl (.long, 10, (fun _ => .long 0)) := (fr1 270 (by decide)).trans q_270
  have h_271 : f1 271 = .inr (11, [.ref 272, .ref 273, .ref 274, .ref 275]) := (fr1 271 (by decide)).trans q_271
  have h_272 : f1 272 = .inl (.int, 2000, (fun _ => .int 0)) := (fr1 272 (by decide)).trans q_272
  have h_273 : f1 273 = .inl (.int, 2000, (fun _ => .int 0)) := (fr1 273 (by decide)).trans q_273
  have h_274 : f1 274 = .inl (.long, 2000, (fun _ => .long 0)) := (fr1 274 (by decide)).trans q_274
  have h_275 : f1 275 = .inl (.long, 2000, (fun _ => .long 0)) := (fr1 275 (by decide)).trans q_275
  have h_281 : f1 281 = .inl (.object "StowTongueModel$Code", 10, (fun _ => .null)) := (fr1 281 (by decide)).trans q_281
  have h_160 : f1 160 = .inr (14, [.ref 161, .ref 162, .int 0, .int 0, .int 0, .int 0, .int 0, .int 0, .int 0, .int 0, .int 0, .long 0, .ref 163, .ref 170, .ref 171, .ref 172, .ref 173, .ref 174, .ref 175, .ref 176, .int 0, .ref 177, .null, .ref 184, .int 0, .int 0, .ref 185, .int 0, .ref 186, .int 0, .ref 187, .ref 204, .ref 221, .ref 238, .int 0, .int 0, .ref 239, .ref 240, .ref 245, .ref 250, .ref 255, .int 0, .int 0, .int 0, .int 0, .int 0, .int 0, .ref 260, .ref 261, .ref 262, .ref 263, .ref 264, .int 0]) := (fr1 160 (by decide)).trans q_160
  have h_163 : f1 163 = .inr (12, [.ref 164, .ref 165, .int 0, .int 0, .int 0, .int 0, .int 0, .int 0, .int 0, .int 0]) := (fr1 163 (by decide)).trans q_163
  have h_164 : f1 164 = .inl (.int, 6000, (fun _ => .int 0)) := (fr1 164 (by decide)).trans q_164
  have h_177 : f1 177 = .inr (12, [.ref 178, .ref 179, .int 0, .int 0, .int 0, .int 0, .int 0, .int 0, .int 0, .int 0]) := (fr1 177 (by decide)).trans q_177
  have h_187 : f1 187 = .inr (13, [.ref 188, .ref 189, .ref 190, .ref 191, .ref 192, .ref 193, .ref 198, .ref 203, .int 0, .int 0, .int 0, .int 0]) := (fr1 187 (by decide)).trans q_187
  have h_188 : f1 188 = .inl (.int, 100, (fun _ => .int 0)) := (fr1 188 (by decide)).trans q_188
  have h_189 : f1 189 = .inl (.int, 100, (fun _ => .int 0)) := (fr1 189 (by decide)).trans q_189
  have h_190 : f1 190 = .inl (.long, 800, (fun _ => .long 0)) := (fr1 190 (by decide)).trans q_190
  have h_191 : f1 191 = .inl (.long, 12, (fun _ => .long 0)) := (fr1 191 (by decide)).trans q_191
  have h_192 : f1 192 = .inl (.long, 10, (fun _ => .long 0)) := (fr1 192 (by decide)).trans q_192
  have h_193 : f1 193 = .inr (11, [.ref 194, .ref 195, .ref 196, .ref 197]) := (fr1 193 (by decide)).trans q_193
  have h_194 : f1 194 = .inl (.int, 2000, (fun _ => .int 0)) := (fr1 194 (by decide)).trans q_194
  have h_195 : f1 195 = .inl (.int, 2000, (fun _ => .int 0)) := (fr1 195 (by decide)).trans q_195
  have h_196 : f1 196 = .inl (.long, 2000, (fun _ => .long 0)) := (fr1 196 (by decide)).trans q_196
  have h_197 : f1 197 = .inl (.long, 2000, (fun _ => .long 0)) := (fr1 197 (by decide)).trans q_197
  have h_203 : f1 203 = .inl (.object "StowTongueModel$Code", 10, (fun _ => .null)) := (fr1 203 (by decide)).trans q_203
  have h_204 : f1 204 = .inr (13, [.ref 205, .ref 206, .ref 207, .ref 208, .ref 209, .ref 210, .ref 215, .ref 220, .int 0, .int 0, .int 0, .int 0]) := (fr1 204 (by decide)).trans q_204
  have h_205 : f1 205 = .inl (.int, 100, (fun _ => .int 0)) := (fr1 205 (by decide)).trans q_205
  have h_206 : f1 206 = .inl (.int, 100, (fun _ => .int 0)) := (fr1 206 (by decide)).trans q_206
  have h_207 : f1 207 = .inl (.long, 800, (fun _ => .long 0)) := (fr1 207 (by decide)).trans q_207
  have h_208 : f1 208 = .inl (.long, 12, (fun _ => .long 0)) := (fr1 208 (by decide)).trans q_208
  have h_209 : f1 209 = .inl (.long, 10, (fun _ => .long 0)) := (fr1 209 (by decide)).trans q_209
  have h_210 : f1 210 = .inr (11, [.ref 211, .ref 212, .ref 213, .ref 214]) := (fr1 210 (by decide)).trans q_210
  have h_211 : f1 211 = .inl (.int, 2000, (fun _ => .int 0)) := (fr1 211 (by decide)).trans q_211
  have h_212 : f1 212 = .inl (.int, 2000, (fun _ => .int 0)) := (fr1 212 (by decide)).trans q_212
  have h_213 : f1 213 = .inl (.long, 2000, (fun _ => .long 0)) := (fr1 213 (by decide)).trans q_213
  have h_214 : f1 214 = .inl (.long, 2000, (fun _ => .long 0)) := (fr1 214 (by decide)).trans q_214
  have h_220 : f1 220 = .inl (.object "StowTongueModel$Code", 10, (fun _ => .null)) := (fr1 220 (by decide)).trans q_220
  have h_238 : f1 238 = .inl (.object "StowTongueModel$State", 8, (updV (updV (updV (updV (updV (updV (updV (updV (fun _ => .null) 0 (.ref 265)) 1 (.ref 282)) 2 (.ref 299)) 3 (.ref 316)) 4 (.ref 333)) 5 (.ref 350)) 6 (.ref 367)) 7 (.ref 384))) := (fr1 238 (by decide)).trans q_238
  have h_240 : f1 240 = .inr (11, [.ref 241, .ref 242, .ref 243, .ref 244]) := (fr1 240 (by decide)).trans q_240
  have h_241 : f1 241 = .inl (.int, 8000, (fun _ => .int 0)) := (fr1 241 (by decide)).trans q_241
  have h_242 : f1 242 = .inl (.int, 8000, (fun _ => .int 0)) := (fr1 242 (by decide)).trans q_242
  have h_243 : f1 243 = .inl (.long, 8000, (fun _ => .long 0)) := (fr1 243 (by decide)).trans q_243
  have h_244 : f1 244 = .inl (.long, 8000, (fun _ => .long 0)) := (fr1 244 (by decide)).trans q_244
  have h_250 : f1 250 = .inr (11, [.ref 251, .ref 252, .ref 253, .ref 254]) := (fr1 250 (by decide)).trans q_250
  have h_251 : f1 251 = .inl (.int, 1, (fun _ => .int 0)) := (fr1 251 (by decide)).trans q_251
  have h_252 : f1 252 = .inl (.int, 1, (fun _ => .int 0)) := (fr1 252 (by decide)).trans q_252
  have h_253 : f1 253 = .inl (.long, 1, (fun _ => .long 0)) := (fr1 253 (by decide)).trans q_253
  have h_254 : f1 254 = .inl (.long, 1, (fun _ => .long 0)) := (fr1 254 (by decide)).trans q_254
  have h_255 : f1 255 = .inr (11, [.ref 256, .ref 257, .ref 258, .ref 259]) := (fr1 255 (by decide)).trans q_255
  refine am_aload_n d_Law_law_183 rfl rfl ?_
  refine am_aload_n d_Law_law_184 rfl rfl ?_
  refine am_iload_n d_Law_law_185 rfl rfl ?_
  refine am_iconst (v := 1) d_Law_law_186 (by decide) ?_
  refine am_iadd d_Law_law_187 ?_
  refine am_topi (v := 1) (by decide) ?_
  refine am_ialdE (f := fun j => .int (xs j)) (v := .int (xs 1)) XS d_Law_law_188 (am_in (by decide) (by decide)) rfl ?_
  refine am_callV O (a_run_m O hx (by exact h_160) (by exact h_163) (by exact h_164) (by exact h_177) (by exact h_187) (by exact h_188) (by exact h_189) (by exact h_190) (by exact h_191) (by exact h_192) (by exact h_193) (by exact h_194) (by exact h_195) (by exact h_196) (by exact h_197) (by exact h_203) (by exact h_204) (by exact h_205) (by exact h_206) (by exact h_207) (by exact h_208) (by exact h_209) (by exact h_210) (by exact h_211) (by exact h_212) (by exact h_213) (by exact h_214) (by exact h_220) (by exact h_238) (by exact h_240) (by exact h_241) (by exact h_242) (by exact h_243) (by exact h_244) (by exact h_250) (by exact h_251) (by exact h_252) (by exact h_253) (by exact h_254) (by exact h_255) (by exact h_256) (by exact h_257) (by exact h_258) (by exact h_259) (by exact h_260) (by exact h_261) (by exact h_262) (by exact h_265) (by exact h_266) (by exact h_267) (by exact h_268) (by exact h_269) (by exact h_270) (by exact h_271) (by exact h_272) (by exact h_273) (by exact h_274) (by exact h_275) (by exact h_281)) rfl (by exact h_160) (by decide) (by decide) rfl rfl l_Law_26 ⟨w_1794, w_1795⟩ rfl (Nat.le_of_ble_eq_true rfl) d_Law_law_189 (by omega) (by omega) (by omega) (fun v h' hp => ?_)
  obtain ⟨rfl, -⟩ := hp
  refine am_icmp_eq (tgt := 320) d_Law_law_192 (by decide) (fun _ => ?_) (fun c => absurd rfl c)
  exact law_end O XS (hpost _)

set_option maxRecDepth 100000 in
set_option maxHeartbeats 4000000 in
theorem law_value (O : am_ok K X) {nm : String} {aL : Nat → Int64} {xs : Nat → Int32} {post : Option Value → am_H → Prop} (XS : va_T .int (am_ad K 0) 6 (fun j => .int (xs j)) (am_A K) K.1 K.1.heap)  (hpost : ∀ h, post (some (.int 1)) h) : am_W K X (m_Law_law nm) 100 600000 7302250 1183 601315 197 [(0, .ref 0), (1, .ref 128), (2, .ref 160), (3, .int 0)] [] (1311, p1_f X aL) post := by
  refine am_aload_n d_Law_law_197 rfl rfl ?_
  refine am_callV O (a_value_c O (by exact q_128)) rfl (by exact q_128) (by decide) (by decide) rfl rfl l_Law_27 ⟨w_1371, w_1372⟩ rfl (Nat.le_of_ble_eq_true rfl) d_Law_law_198 (by omega) (by omega) (by omega) (fun v h' hp => ?_)
  obtain ⟨rfl, rfl⟩ := hp
  refine am_aload_n d_Law_law_201 rfl rfl ?_
  refine am_callV O (a_value_m O (by exact q_160) (by exact q_250) (by exact q_251)) rfl (by exact q_160) (by decide) (by decide) rfl rfl l_Law_31 ⟨w_2162, w_2163⟩ rfl (Nat.le_of_ble_eq_true rfl) d_Law_law_202 (by omega) (by omega) (by omega) (fun v h' hp => ?_)
  obtain ⟨rfl, rfl⟩ := hp
  refine am_lcmp d_Law_law_205 ?_
  refine am_topi (v := 0) (by decide) ?_
  refine am_if_eq (tgt := 320) d_Law_law_206 (by decide) (fun _ => ?_) (fun c => absurd rfl c)
  exact law_end O XS (hpost _)

set_option maxRecDepth 100000 in
set_option maxHeartbeats 4000000 in
theorem law_octm (O : am_ok K X) {nm : String} {aL : Nat → Int64} {xs : Nat → Int32} {post : Option Value → am_H → Prop} (XS : va_T .int (am_ad K 0) 6 (fun j => .int (xs j)) (am_A K) K.1 K.1.heap) (hx : xs 1 = -1) (hpost : ∀ h, post (some (.int 1)) h) : am_W K X (m_Law_law nm) 100 600000 7302250 1183 601315 211 [(0, .ref 0), (1, .ref 128), (2, .ref 160), (3, .int 0)] [] (1311, p1_f X aL) post := by
  refine am_aload_n d_Law_law_211 rfl rfl ?_
  refine am_aload_n d_Law_law_212 rfl rfl ?_
  refine am_iload_n d_Law_law_213 rfl rfl ?_
  refine am_iconst (v := 1) d_Law_law_214 (by decide) ?_
  refine am_iadd d_Law_law_215 ?_
  refine am_topi (v := 1) (by decide) ?_
  refine am_ialdE (f := fun j => .int (xs j)) (v := .int (-1)) XS d_Law_law_216 (am_in (by decide) (by decide)) (by show Value.int (xs 1) = _; rw [hx]) ?_
  refine am_callV O (a_octm_c O (by exact q_128) (by exact q_130)) rfl (by exact q_128) (by decide) (by decide) rfl rfl l_Law_32 ⟨w_1384, w_1385⟩ rfl (Nat.le_of_ble_eq_true rfl) d_Law_law_217 (by omega) (by omega) (by omega) (fun v h' hp => ?_)
  obtain ⟨rfl, rfl⟩ := hp
  refine am_aload_n d_Law_law_220 rfl rfl ?_
  refine am_aload_n d_Law_law_221 rfl rfl ?_
  refine am_iload_n d_Law_law_222 rfl rfl ?_
  refine am_iconst (v := 1) d_Law_law_223 (by decide) ?_
  refine am_iadd d_Law_law_224 ?_
  refine am_topi (v := 1) (by decide) ?_
  refine am_ialdE (f := fun j => .int (xs j)) (v := .int (-1)) XS d_Law_law_225 (am_in (by decide) (by decide)) (by show Value.int (xs 1) = _; rw [hx]) ?_
  refine am_callV O (a_octm_m O (by exact q_160)) rfl (by exact q_160) (by decide) (by decide) rfl rfl l_Law_35 ⟨w_2169, w_2170⟩ rfl (Nat.le_of_ble_eq_true rfl) d_Law_law_226 (by omega) (by omega) (by omega) (fun v h' hp => ?_)
  obtain ⟨rfl, rfl⟩ := hp
  refine am_icmp_eq (tgt := 320) d_Law_law_229 (by decide) (fun _ => ?_) (fun c => absurd rfl c)
  exact law_end O XS (hpost _)

set_option maxRecDepth 100000 in
set_option maxHeartbeats 4000000 in
theorem law_octn (O : am_ok K X) {nm : String} {aL : Nat → Int64} {xs : Nat → Int32} {post : Option Value → am_H → Prop} (XS : va_T .int (am_ad K 0) 6 (fun j => .int (xs j)) (am_A K) K.1 K.1.heap) (hx : (xs 1).toInt < -1) (hpost : ∀ h, post (some (.int 1)) h) : am_W K X (m_Law_law nm) 100 600000 7302250 1183 601315 211 [(0, .ref 0), (1, .ref 128), (2, .ref 160), (3, .int 0)] [] (1311, p1_f X aL) post := by
  refine am_aload_n d_Law_law_211 rfl rfl ?_
  refine am_aload_n d_Law_law_212 rfl rfl ?_
  refine am_iload_n d_Law_law_213 rfl rfl ?_
  refine am_iconst (v := 1) d_Law_law_214 (by decide) ?_
  refine am_iadd d_Law_law_215 ?_
  refine am_topi (v := 1) (by decide) ?_
  refine am_ialdE (f := fun j => .int (xs j)) (v := .int (xs 1)) XS d_Law_law_216 (am_in (by decide) (by decide)) rfl ?_
  refine am_callV O (a_octn_c O hx) rfl (by exact q_128) (by decide) (by decide) rfl rfl l_Law_32 ⟨w_1384, w_1385⟩ rfl (Nat.le_of_ble_eq_true rfl) d_Law_law_217 (by omega) (by omega) (by omega) (fun v h' hp => ?_)
  obtain ⟨rfl, rfl⟩ := hp
  refine am_aload_n d_Law_law_220 rfl rfl ?_
  refine am_aload_n d_Law_law_221 rfl rfl ?_
  refine am_iload_n d_Law_law_222 rfl rfl ?_
  refine am_iconst (v := 1) d_Law_law_223 (by decide) ?_
  refine am_iadd d_Law_law_224 ?_
  refine am_topi (v := 1) (by decide) ?_
  refine am_ialdE (f := fun j => .int (xs j)) (v := .int (xs 1)) XS d_Law_law_225 (am_in (by decide) (by decide)) rfl ?_
  refine am_callV O (a_octn_m O hx (by exact q_160)) rfl (by exact q_160) (by decide) (by decide) rfl rfl l_Law_35 ⟨w_2169, w_2170⟩ rfl (Nat.le_of_ble_eq_true rfl) d_Law_law_226 (by omega) (by omega) (by omega) (fun v h' hp => ?_)
  obtain ⟨rfl, rfl⟩ := hp
  refine am_icmp_eq (tgt := 320) d_Law_law_229 (by decide) (fun _ => ?_) (fun c => absurd rfl c)
  exact law_end O XS (hpost _)

set_option maxRecDepth 100000 in
set_option maxHeartbeats 4000000 in
theorem law_octp (O : am_ok K X) {nm : String} {aL : Nat → Int64} {xs : Nat → Int32} {post : Option Value → am_H → Prop} (XS : va_T .int (am_ad K 0) 6 (fun j => .int (xs j)) (am_A K) K.1 K.1.heap) (hx : -1 < (xs 1).toInt) (hpost : ∀ h, post (some (.int 1)) h) : am_W K X (m_Law_law nm) 100 600000 7302250 1183 601315 211 [(0, .ref 0), (1, .ref 128), (2, .ref 160), (3, .int 0)] [] (1311, p1_f X aL) post := by
  refine am_aload_n d_Law_law_211 rfl rfl ?_
  refine am_aload_n d_Law_law_212 rfl rfl ?_
  refine am_iload_n d_Law_law_213 rfl rfl ?_
  refine am_iconst (v := 1) d_Law_law_214 (by decide) ?_
  refine am_iadd d_Law_law_215 ?_
  refine am_topi (v := 1) (by decide) ?_
  refine am_ialdE (f := fun j => .int (xs j)) (v := .int (xs 1)) XS d_Law_law_216 (am_in (by decide) (by decide)) rfl ?_
  refine am_callV O (a_octp_c O hx (by exact q_128) (by exact q_130)) rfl (by exact q_128) (by decide) (by decide) rfl rfl l_Law_32 ⟨w_1384, w_1385⟩ rfl (Nat.le_of_ble_eq_true rfl) d_Law_law_217 (by omega) (by omega) (by omega) (fun v h' hp => ?_)
  obtain ⟨rfl, rfl⟩ := hp
  refine am_aload_n d_Law_law_220 rfl rfl ?_
  refine am_aload_n d_Law_law_221 rfl rfl ?_
  refine am_iload_n d_Law_law_222 rfl rfl ?_
  refine am_iconst (v := 1) d_Law_law_223 (by decide) ?_
  refine am_iadd d_Law_law_224 ?_
  refine am_topi (v := 1) (by decide) ?_
  refine am_ialdE (f := fun j => .int (xs j)) (v := .int (xs 1)) XS d_Law_law_225 (am_in (by decide) (by decide)) rfl ?_
  refine am_callV O (a_octp_m O hx (by exact q_160)) rfl (by exact q_160) (by decide) (by decide) rfl rfl l_Law_35 ⟨w_2169, w_2170⟩ rfl (Nat.le_of_ble_eq_true rfl) d_Law_law_226 (by omega) (by omega) (by omega) (fun v h' hp => ?_)
  obtain ⟨rfl, rfl⟩ := hp
  refine am_icmp_eq (tgt := 320) d_Law_law_229 (by decide) (fun _ => ?_) (fun c => absurd rfl c)
  exact law_end O XS (hpost _)

set_option maxRecDepth 100000 in
set_option maxHeartbeats 4000000 in
theorem law_root (O : am_ok K X) {nm : String} {aL : Nat → Int64} {xs : Nat → Int32} {post : Option Value → am_H → Prop} (XS : va_T .int (am_ad K 0) 6 (fun j => .int (xs j)) (am_A K) K.1 K.1.heap)  (hpost : ∀ h, post (some (.int 1)) h) : am_W K X (m_Law_law nm) 100 600000 7302250 1183 601315 234 [(0, .ref 0), (1, .ref 128), (2, .ref 160), (3, .int 0)] [] (1311, p1_f X aL) post := by
  refine am_aload_n d_Law_law_234 rfl rfl ?_
  refine am_callV O (a_root_c O (by exact q_128) (by exact q_154) (by exact q_155)) rfl (by exact q_128) (by decide) (by decide) rfl rfl l_Law_36 ⟨w_1396, w_1397⟩ rfl (Nat.le_of_ble_eq_true rfl) d_Law_law_235 (by omega) (by omega) (by omega) (fun v h' hp => ?_)
  obtain ⟨n1, f1⟩ := h'
  obtain ⟨rfl, e1, g_128, g_1311, g_1312, g_1313, g_1314, g_1315, g_1316, g_1317, g_1318, g_155, fr1⟩ := hp
  obtain rfl : n1 = 1319 := e1
  have fr1 := fun (x : Nat) (hx : x ∉ ([128, 1311, 1312, 1313, 1314, 1315, 1316, 1317, 1318, 155] : List Nat)) => (show f1 x = _ from fr1 x hx)
  have h_160 : f1 160 = .inr (14, [.ref 161, .ref 162, .int 0, .int 0, .int 0, .int 0, .int 0, .int 0, .int 0, .int 0, .int 0, .long 0, .ref 163, .ref 170, .ref 171, .ref 172, .ref 173, .ref 174, .ref 175, .ref 176, .int 0, .ref 177, .null, .ref 184, .int 0, .int 0, .ref 185, .int 0, .ref 186, .int 0, .ref 187, .ref 204, .ref 221, .ref 238, .int 0, .int 0, .ref 239, .ref 240, .ref 245, .ref 250, .ref 255, .int 0, .int 0, .int 0, .int 0, .int 0, .int 0, .ref 260, .ref 261, .ref 262, .ref 263, .ref 264, .int 0]) := (fr1 160 (by decide)).trans q_160
  have h_187 : f1 187 = .inr (13, [.ref 188, .ref 189, .ref 190, .ref 191, .ref 192, .ref 193, .ref 198, .ref 203, .int 0, .int 0, .int 0, .int 0]) := (fr1 187 (by decide)).trans q_187
  refine am_aload_n d_Law_law_238 rfl rfl ?_
  refine am_callV O (a_root_m O (by exact h_160) (by exact h_187)) rfl (by exact h_160) (by decide) (by decide) rfl rfl l_Law_39 ⟨w_2174, w_2175⟩ rfl (Nat.le_of_ble_eq_true rfl) d_Law_law_239 (by omega) (by omega) (by omega) (fun v h' hp => ?_)
  obtain ⟨rfl, -⟩ := hp
  refine am_lcmp d_Law_law_242 ?_
  refine am_topi (v := 0) (by decide) ?_
  refine am_if_eq (tgt := 320) d_Law_law_243 (by decide) (fun _ => ?_) (fun c => absurd rfl c)
  exact law_end O XS (hpost _)

set_option maxRecDepth 100000 in
set_option maxHeartbeats 4000000 in
theorem law_sync (O : am_ok K X) {nm : String} {aL : Nat → Int64} {xs : Nat → Int32} {post : Option Value → am_H → Prop} (XS : va_T .int (am_ad K 0) 6 (fun j => .int (xs j)) (am_A K) K.1 K.1.heap)  (hpost : ∀ h, post (some (.int 1)) h) : am_W K X (m_Law_law nm) 100 600000 7302250 1183 601315 248 [(0, .ref 0), (1, .ref 128), (2, .ref 160), (3, .int 0)] [] (1311, p1_f X aL) post := by
  refine am_aload_n d_Law_law_248 rfl rfl ?_
  refine am_callV O (a_sync_c O (by exact q_128) (by exact q_154)) rfl (by exact q_128) (by decide) (by decide) rfl rfl l_Law_40 ⟨w_1406, w_1407⟩ rfl (Nat.le_of_ble_eq_true rfl) d_Law_law_249 (by omega) (by omega) (by omega) (fun v h' hp => ?_)
  obtain ⟨rfl, rfl⟩ := hp
  refine am_aload_n d_Law_law_252 rfl rfl ?_
  refine am_callV O (a_sync_m O (by exact q_160) (by exact q_187) (by exact q_188) (by exact q_189) (by exact q_190) (by exact q_191) (by exact q_192) (by exact q_193) (by exact q_194) (by exact q_195) (by exact q_196) (by exact q_197) (by exact q_203) (by exact q_221) (by exact q_222) (by exact q_223) (by exact q_224) (by exact q_225) (by exact q_226) (by exact q_227) (by exact q_228) (by exact q_229) (by exact q_230) (by exact q_231) (by exact q_237)) rfl (by exact q_160) (by decide) (by decide) rfl rfl l_Law_44 ⟨w_2143, w_2144⟩ rfl (Nat.le_of_ble_eq_true rfl) d_Law_law_253 (by omega) (by omega) (by omega) (fun v h' hp => ?_)
  obtain ⟨rfl, -⟩ := hp
  refine am_icmp_eq (tgt := 320) d_Law_law_256 (by decide) (fun _ => ?_) (fun c => absurd rfl c)
  exact law_end O XS (hpost _)

set_option maxRecDepth 100000 in
set_option maxHeartbeats 4000000 in
theorem law_crashn (O : am_ok K X) {nm : String} {aL : Nat → Int64} {xs : Nat → Int32} {post : Option Value → am_H → Prop} (XS : va_T .int (am_ad K 0) 6 (fun j => .int (xs j)) (am_A K) K.1 K.1.heap) (hx : (xs 1).toInt < 0) (hpost : ∀ h, post (some (.int 1)) h) : am_W K X (m_Law_law nm) 100 600000 7302250 1183 601315 261 [(0, .ref 0), (1, .ref 128), (2, .ref 160), (3, .int 0)] [] (1311, p1_f X aL) post := by
  refine am_aload_n d_Law_law_261 rfl rfl ?_
  refine am_aload_n d_Law_law_262 rfl rfl ?_
  refine am_iload_n d_Law_law_263 rfl rfl ?_
  refine am_iconst (v := 1) d_Law_law_264 (by decide) ?_
  refine am_iadd d_Law_law_265 ?_
  refine am_topi (v := 1) (by decide) ?_
  refine am_ialdE (f := fun j => .int (xs j)) (v := .int (xs 1)) XS d_Law_law_266 (am_in (by decide) (by decide)) rfl ?_
  refine am_callV O (a_crashn_c O hx) rfl (by exact q_128) (by decide) (by decide) rfl rfl l_Law_45 ⟨w_1415, w_1416⟩ rfl (Nat.le_of_ble_eq_true rfl) d_Law_law_267 (by omega) (by omega) (by omega) (fun v h' hp => ?_)
  obtain ⟨rfl, rfl⟩ := hp
  refine am_aload_n d_Law_law_270 rfl rfl ?_
  refine am_aload_n d_Law_law_271 rfl rfl ?_
  refine am_iload_n d_Law_law_272 rfl rfl ?_
  refine am_iconst (v := 1) d_Law_law_273 (by decide) ?_
  refine am_iadd d_Law_law_274 ?_
  refine am_topi (v := 1) (by decide) ?_
  refine am_ialdE (f := fun j => .int (xs j)) (v := .int (xs 1)) XS d_Law_law_275 (am_in (by decide) (by decide)) rfl ?_
  refine am_callV O (a_crashn_m O hx) rfl (by exact q_160) (by decide) (by decide) rfl rfl l_Law_48 ⟨w_2147, w_2148⟩ rfl (Nat.le_of_ble_eq_true rfl) d_Law_law_276 (by omega) (by omega) (by omega) (fun v h' hp => ?_)
  obtain ⟨rfl, rfl⟩ := hp
  refine am_icmp_eq (tgt := 320) d_Law_law_279 (by decide) (fun _ => ?_) (fun c => absurd rfl c)
  exact law_end O XS (hpost _)

set_option maxRecDepth 100000 in
set_option maxHeartbeats 4000000 in
theorem law_crashp (O : am_ok K X) {nm : String} {aL : Nat → Int64} {xs : Nat → Int32} {post : Option Value → am_H → Prop} (XS : va_T .int (am_ad K 0) 6 (fun j => .int (xs j)) (am_A K) K.1 K.1.heap) (hx : 0 ≤ (xs 1).toInt) (hpost : ∀ h, post (some (.int 1)) h) : am_W K X (m_Law_law nm) 100 600000 7302250 1183 601315 261 [(0, .ref 0), (1, .ref 128), (2, .ref 160), (3, .int 0)] [] (1311, p1_f X aL) post := by
  refine am_aload_n d_Law_law_261 rfl rfl ?_
  refine am_aload_n d_Law_law_262 rfl rfl ?_
  refine am_iload_n d_Law_law_263 rfl rfl ?_
  refine am_iconst (v := 1) d_Law_law_264 (by decide) ?_
  refine am_iadd d_Law_law_265 ?_
  refine am_topi (v := 1) (by decide) ?_
  refine am_ialdE (f := fun j => .int (xs j)) (v := .int (xs 1)) XS d_Law_law_266 (am_in (by decide) (by decide)) rfl ?_
  refine am_callV O (a_crashp_c O hx (by exact q_128) (by exact q_154)) rfl (by exact q_128) (by decide) (by decide) rfl rfl l_Law_45 ⟨w_1415, w_1416⟩ rfl (Nat.le_of_ble_eq_true rfl) d_Law_law_267 (by omega) (by omega) (by omega) (fun v h' hp => ?_)
  obtain ⟨n1, f1⟩ := h'
  obtain ⟨rfl, e1, g_154, fr1⟩ := hp
  obtain rfl : n1 = 1311 := e1
  have fr1 := fun (x : Nat) (hx : x ∉ ([154] : List Nat)) => (show f1 x = _ from fr1 x hx)
  have h_160 : f1 160 = .inr (14, [.ref 161, .ref 162, .int 0, .int 0, .int 0, .int 0, .int 0, .int 0, .int 0, .int 0, .int 0, .long 0, .ref 163, .ref 170, .ref 171, .ref 172, .ref 173, .ref 174, .ref 175, .ref 176, .int 0, .ref 177, .null, .ref 184, .int 0, .int 0, .ref 185, .int 0, .ref 186, .int 0, .ref 187, .ref 204, .ref 221, .ref 238, .int 0, .int 0, .ref 239, .ref 240, .ref 245, .ref 250, .ref 255, .int 0, .int 0, .int 0, .int 0, .int 0, .int 0, .ref 260, .ref 261, .ref 262, .ref 263, .ref 264, .int 0]) := (fr1 160 (by decide)).trans q_160
  have h_187 : f1 187 = .inr (13, [.ref 188, .ref 189, .ref 190, .ref 191, .ref 192, .ref 193, .ref 198, .ref 203, .int 0, .int 0, .int 0, .int 0]) := (fr1 187 (by decide)).trans q_187
  have h_188 : f1 188 = .inl (.int, 100, (fun _ => .int 0)) := (fr1 188 (by decide)).trans q_188
  have h_189 : f1 189 = .inl (.int, 100, (fun _ => .int 0)) := (fr1 189 (by decide)).trans q_189
  have h_190 : f1 190 = .inl (.long, 800, (fun _ => .long 0)) := (fr1 190 (by decide)).trans q_190
  have h_191 : f1 191 = .inl (.long, 12, (fun _ => .long 0)) := (fr1 191 (by decide)).trans q_191
  have h_192 : f1 192 = .inl (.long, 10, (fun _ => .long 0)) := (fr1 192 (by decide)).trans q_192
  have h_193 : f1 193 = .inr (11, [.ref 194, .ref 195, .ref 196, .ref 197]) := (fr1 193 (by decide)).trans q_193
  have h_194 : f1 194 = .inl (.int, 2000, (fun _ => .int 0)) := (fr1 194 (by decide)).trans q_194
  have h_195 : f1 195 = .inl (.int, 2000, (fun _ => .int 0)) := (fr1 195 (by decide)).trans q_195
  have h_196 : f1 196 = .inl (.long, 2000, (fun _ => .long 0)) := (fr1 196 (by decide)).trans q_196
  have h_197 : f1 197 = .inl (.long, 2000, (fun _ => .long 0)) := (fr1 197 (by decide)).trans q_197
  have h_203 : f1 203 = .inl (.object "StowTongueModel$Code", 10, (fun _ => .null)) := (fr1 203 (by decide)).trans q_203
  have h_221 : f1 221 = .inr (13, [.ref 222, .ref 223, .ref 224, .ref 225, .ref 226, .ref 227, .ref 232, .ref 237, .int 0, .int 0, .int 0, .int 0]) := (fr1 221 (by decide)).trans q_221
  have h_222 : f1 222 = .inl (.int, 100, (fun _ => .int 0)) := (fr1 222 (by decide)).trans q_222
  have h_223 : f1 223 = .inl (.int, 100, (fun _ => .int 0)) := (fr1 223 (by decide)).trans q_223
  have h_224 : f1 224 = .inl (.long, 800, (fun _ => .long 0)) := (fr1 224 (by decide)).trans q_224
  have h_225 : f1 225 = .inl (.long, 12, (fun _ => .long 0)) := (fr1 225 (by decide)).trans q_225
  have h_226 : f1 226 = .inl (.long, 10, (fun _ => .long 0)) := (fr1 226 (by decide)).trans q_226
  have h_227 : f1 227 = .inr (11, [.ref 228, .ref 229, .ref 230, .ref 231]) := (fr1 227 (by decide)).trans q_227
  have h_228 : f1 228 = .inl (.int, 2000, (fun _ => .int 0)) := (fr1 228 (by decide)).trans q_228
  have h_229 : f1 229 = .inl (.int, 2000, (fun _ => .int 0)) := (fr1 229 (by decide)).trans q_229
  have h_230 : f1 230 = .inl (.long, 2000, (fun _ => .long 0)) := (fr1 230 (by decide)).trans q_230
  have h_231 : f1 231 = .inl (.long, 2000, (fun _ => .long 0)) := (fr1 231 (by decide)).trans q_231
  have h_237 : f1 237 = .inl (.object "StowTongueModel$Code", 10, (fun _ => .null)) := (fr1 237 (by decide)).trans q_237
  refine am_aload_n d_Law_law_270 rfl rfl ?_
  refine am_aload_n d_Law_law_271 rfl rfl ?_
  refine am_iload_n d_Law_law_272 rfl rfl ?_
  refine am_iconst (v := 1) d_Law_law_273 (by decide) ?_
  refine am_iadd d_Law_law_274 ?_
  refine am_topi (v := 1) (by decide) ?_
  refine am_ialdE (f := fun j => .int (xs j)) (v := .int (xs 1)) XS d_Law_law_275 (am_in (by decide) (by decide)) rfl ?_
  refine am_callV O (a_crashp_m O hx (by exact h_160) (by exact h_187) (by exact h_188) (by exact h_189) (by exact h_190) (by exact h_191) (by exact h_192) (by exact h_193) (by exact h_194) (by exact h_195) (by exact h_196) (by exact h_197) (by exact h_203) (by exact h_221) (by exact h_222) (by exact h_223) (by exact h_224) (by exact h_225) (by exact h_226) (by exact h_227) (by exact h_228) (by exact h_229) (by exact h_230) (by exact h_231) (by exact h_237)) rfl (by exact h_160) (by decide) (by decide) rfl rfl l_Law_48 ⟨w_2147, w_2148⟩ rfl (Nat.le_of_ble_eq_true rfl) d_Law_law_276 (by omega) (by omega) (by omega) (fun v h' hp => ?_)
  obtain ⟨rfl, -⟩ := hp
  refine am_icmp_eq (tgt := 320) d_Law_law_279 (by decide) (fun _ => ?_) (fun c => absurd rfl c)
  exact law_end O XS (hpost _)

set_option maxRecDepth 100000 in
set_option maxHeartbeats 4000000 in
theorem law_sweep (O : am_ok K X) {nm : String} {aL : Nat → Int64} {xs : Nat → Int32} {post : Option Value → am_H → Prop} (XS : va_T .int (am_ad K 0) 6 (fun j => .int (xs j)) (am_A K) K.1 K.1.heap)  (hpost : ∀ h, post (some (.int 1)) h) : am_W K X (m_Law_law nm) 100 600000 7302250 1183 601315 284 [(0, .ref 0), (1, .ref 128), (2, .ref 160), (3, .int 0)] [] (1311, p1_f X aL) post := by
  refine am_aload_n d_Law_law_284 rfl rfl ?_
  refine am_callV O (a_sweep_c O (by exact q_128) (by exact q_154) (by exact q_155) (by exact q_157) (by exact q_158)) rfl (by exact q_128) (by decide) (by decide) rfl rfl l_Law_49 ⟨w_1427, w_1428⟩ rfl (Nat.le_of_ble_eq_true rfl) d_Law_law_285 (by omega) (by omega) (by omega) (fun v h' hp => ?_)
  obtain ⟨n1, f1⟩ := h'
  obtain ⟨rfl, e1, g_1311, g_1312, g_1313, g_1314, g_1315, g_1316, g_1317, g_1318, g_155, g_1319, g_1320, g_1321, g_1322, g_1323, g_1324, g_1325, g_1326, g_158, g_157, fr1⟩ := hp
  obtain rfl : n1 = 1327 := e1
  have fr1 := fun (x : Nat) (hx : x ∉ ([1311, 1312, 1313, 1314, 1315, 1316, 1317, 1318, 155, 1319, 1320, 1321, 1322, 1323, 1324, 1325, 1326, 158, 157] : List Nat)) => (show f1 x = _ from fr1 x hx)
  have h_160 : f1 160 = .inr (14, [.ref 161, .ref 162, .int 0, .int 0, .int 0, .int 0, .int 0, .int 0, .int 0, .int 0, .int 0, .long 0, .ref 163, .ref 170, .ref 171, .ref 172, .ref 173, .ref 174, .ref 175, .ref 176, .int 0, .ref 177, .null, .ref 184, .int 0, .int 0, .ref 185, .int 0, .ref 186, .int 0, .ref 187, .ref 204, .ref 221, .ref 238, .int 0, .int 0, .ref 239, .ref 240, .ref 245, .ref 250, .ref 255, .int 0, .int 0, .int 0, .int 0, .int 0, .int 0, .ref 260, .ref 261, .ref 262, .ref 263, .ref 264, .int 0]) := (fr1 160 (by decide)).trans q_160
  have h_187 : f1 187 = .inr (13, [.ref 188, .ref 189, .ref 190, .ref 191, .ref 192, .ref 193, .ref 198, .ref 203, .int 0, .int 0, .int 0, .int 0]) := (fr1 187 (by decide)).trans q_187
  have h_188 : f1 188 = .inl (.int, 100, (fun _ => .int 0)) := (fr1 188 (by decide)).trans q_188
  have h_263 : f1 263 = .inl (.boolean, 100, (fun _ => .int 0)) := (fr1 263 (by decide)).trans q_263
  refine am_aload_n d_Law_law_288 rfl rfl ?_
  refine am_callV O (a_sweep_m O (by exact h_160) (by exact h_187) (by exact h_188) (by exact h_263)) rfl (by exact h_160) (by decide) (by decide) rfl rfl l_Law_52 ⟨w_2151, w_2152⟩ rfl (Nat.le_of_ble_eq_true rfl) d_Law_law_289 (by omega) (by omega) (by omega) (fun v h' hp => ?_)
  obtain ⟨rfl, -⟩ := hp
  refine am_icmp_eq (tgt := 320) d_Law_law_292 (by decide) (fun _ => ?_) (fun c => absurd rfl c)
  exact law_end O XS (hpost _)

set_option maxRecDepth 100000 in
set_option maxHeartbeats 4000000 in
theorem law_count0 (O : am_ok K X) {nm : String} {aL : Nat → Int64} {xs : Nat → Int32} {post : Option Value → am_H → Prop} (XS : va_T .int (am_ad K 0) 6 (fun j => .int (xs j)) (am_A K) K.1 K.1.heap) (hx : xs 1 = 0) (hpost : ∀ h, post (some (.int 1)) h) : am_W K X (m_Law_law nm) 100 600000 7302250 1183 601315 297 [(0, .ref 0), (1, .ref 128), (2, .ref 160), (3, .int 0)] [] (1311, p1_f X aL) post := by
  refine am_aload_n d_Law_law_297 rfl rfl ?_
  refine am_aload_n d_Law_law_298 rfl rfl ?_
  refine am_iload_n d_Law_law_299 rfl rfl ?_
  refine am_iconst (v := 1) d_Law_law_300 (by decide) ?_
  refine am_iadd d_Law_law_301 ?_
  refine am_topi (v := 1) (by decide) ?_
  refine am_ialdE (f := fun j => .int (xs j)) (v := .int 0) XS d_Law_law_302 (am_in (by decide) (by decide)) (by show Value.int (xs 1) = _; rw [hx]) ?_
  refine am_callV O (a_count0_c O (by exact q_128) (by exact q_154) (by exact q_155)) rfl (by exact q_128) (by decide) (by decide) rfl rfl l_Law_53 ⟨w_1462, w_1463⟩ rfl (Nat.le_of_ble_eq_true rfl) d_Law_law_303 (by omega) (by omega) (by omega) (fun v h' hp => ?_)
  obtain ⟨n1, f1⟩ := h'
  obtain ⟨rfl, e1, g_1311, g_1312, g_1313, g_1314, g_1315, g_1316, g_1317, g_1318, g_155, fr1⟩ := hp
  obtain rfl : n1 = 1319 := e1
  have fr1 := fun (x : Nat) (hx : x ∉ ([1311, 1312, 1313, 1314, 1315, 1316, 1317, 1318, 155] : List Nat)) => (show f1 x = _ from fr1 x hx)
  have h_160 : f1 160 = .inr (14, [.ref 161, .ref 162, .int 0, .int 0, .int 0, .int 0, .int 0, .int 0, .int 0, .int 0, .int 0, .long 0, .ref 163, .ref 170, .ref 171, .ref 172, .ref 173, .ref 174, .ref 175, .ref 176, .int 0, .ref 177, .null, .ref 184, .int 0, .int 0, .ref 185, .int 0, .ref 186, .int 0, .ref 187, .ref 204, .ref 221, .ref 238, .int 0, .int 0, .ref 239, .ref 240, .ref 245, .ref 250, .ref 255, .int 0, .int 0, .int 0, .int 0, .int 0, .int 0, .ref 260, .ref 261, .ref 262, .ref 263, .ref 264, .int 0]) := (fr1 160 (by decide)).trans q_160
  have h_187 : f1 187 = .inr (13, [.ref 188, .ref 189, .ref 190, .ref 191, .ref 192, .ref 193, .ref 198, .ref 203, .int 0, .int 0, .int 0, .int 0]) := (fr1 187 (by decide)).trans q_187
  refine am_aload_n d_Law_law_306 rfl rfl ?_
  refine am_aload_n d_Law_law_307 rfl rfl ?_
  refine am_iload_n d_Law_law_308 rfl rfl ?_
  refine am_iconst (v := 1) d_Law_law_309 (by decide) ?_
  refine am_iadd d_Law_law_310 ?_
  refine am_topi (v := 1) (by decide) ?_
  refine am_ialdE (f := fun j => .int (xs j)) (v := .int 0) XS d_Law_law_311 (am_in (by decide) (by decide)) (by show Value.int (xs 1) = _; rw [hx]) ?_
  refine am_callV O (a_count0_m O (by exact h_160) (by exact h_187)) rfl (by exact h_160) (by decide) (by decide) rfl rfl l_Law_56 ⟨w_2178, w_2179⟩ rfl (Nat.le_of_ble_eq_true rfl) d_Law_law_312 (by omega) (by omega) (by omega) (fun v h' hp => ?_)
  obtain ⟨rfl, rfl⟩ := hp
  refine am_icmp_eq (tgt := 320) d_Law_law_315 (by decide) (fun _ => ?_) (fun c => absurd rfl c)
  exact law_end O XS (hpost _)

set_option maxRecDepth 100000 in
set_option maxHeartbeats 4000000 in
theorem law_count1 (O : am_ok K X) {nm : String} {aL : Nat → Int64} {xs : Nat → Int32} {post : Option Value → am_H → Prop} (XS : va_T .int (am_ad K 0) 6 (fun j => .int (xs j)) (am_A K) K.1 K.1.heap) (hx : xs 1 = 1) (hpost : ∀ h, post (some (.int 1)) h) : am_W K X (m_Law_law nm) 100 600000 7302250 1183 601315 297 [(0, .ref 0), (1, .ref 128), (2, .ref 160), (3, .int 0)] [] (1311, p1_f X aL) post := by
  refine am_aload_n d_Law_law_297 rfl rfl ?_
  refine am_aload_n d_Law_law_298 rfl rfl ?_
  refine am_iload_n d_Law_law_299 rfl rfl ?_
  refine am_iconst (v := 1) d_Law_law_300 (by decide) ?_
  refine am_iadd d_Law_law_301 ?_
  refine am_topi (v := 1) (by decide) ?_
  refine am_ialdE (f := fun j => .int (xs j)) (v := .int 1) XS d_Law_law_302 (am_in (by decide) (by decide)) (by show Value.int (xs 1) = _; rw [hx]) ?_
  refine am_callV O (a_count1_c O (by exact q_128) (by exact q_154) (by exact q_155)) rfl (by exact q_128) (by decide) (by decide) rfl rfl l_Law_53 ⟨w_1462, w_1463⟩ rfl (Nat.le_of_ble_eq_true rfl) d_Law_law_303 (by omega) (by omega) (by omega) (fun v h' hp => ?_)
  obtain ⟨n1, f1⟩ := h'
  obtain ⟨rfl, e1, g_1311, g_1312, g_1313, g_1314, g_1315, g_1316, g_1317, g_1318, g_155, fr1⟩ := hp
  obtain rfl : n1 = 1319 := e1
  have fr1 := fun (x : Nat) (hx : x ∉ ([1311, 1312, 1313, 1314, 1315, 1316, 1317, 1318, 155] : List Nat)) => (show f1 x = _ from fr1 x hx)
  have h_160 : f1 160 = .inr (14, [.ref 161, .ref 162, .int 0, .int 0, .int 0, .int 0, .int 0, .int 0, .int 0, .int 0, .int 0, .long 0, .ref 163, .ref 170, .ref 171, .ref 172, .ref 173, .ref 174, .ref 175, .ref 176, .int 0, .ref 177, .null, .ref 184, .int 0, .int 0, .ref 185, .int 0, .ref 186, .int 0, .ref 187, .ref 204, .ref 221, .ref 238, .int 0, .int 0, .ref 239, .ref 240, .ref 245, .ref 250, .ref 255, .int 0, .int 0, .int 0, .int 0, .int 0, .int 0, .ref 260, .ref 261, .ref 262, .ref 263, .ref 264, .int 0]) := (fr1 160 (by decide)).trans q_160
  have h_187 : f1 187 = .inr (13, [.ref 188, .ref 189, .ref 190, .ref 191, .ref 192, .ref 193, .ref 198, .ref 203, .int 0, .int 0, .int 0, .int 0]) := (fr1 187 (by decide)).trans q_187
  refine am_aload_n d_Law_law_306 rfl rfl ?_
  refine am_aload_n d_Law_law_307 rfl rfl ?_
  refine am_iload_n d_Law_law_308 rfl rfl ?_
  refine am_iconst (v := 1) d_Law_law_309 (by decide) ?_
  refine am_iadd d_Law_law_310 ?_
  refine am_topi (v := 1) (by decide) ?_
  refine am_ialdE (f := fun j => .int (xs j)) (v := .int 1) XS d_Law_law_311 (am_in (by decide) (by decide)) (by show Value.int (xs 1) = _; rw [hx]) ?_
  refine am_callV O (a_count1_m O (by exact h_160) (by exact h_187)) rfl (by exact h_160) (by decide) (by decide) rfl rfl l_Law_56 ⟨w_2178, w_2179⟩ rfl (Nat.le_of_ble_eq_true rfl) d_Law_law_312 (by omega) (by omega) (by omega) (fun v h' hp => ?_)
  obtain ⟨rfl, rfl⟩ := hp
  refine am_icmp_eq (tgt := 320) d_Law_law_315 (by decide) (fun _ => ?_) (fun c => absurd rfl c)
  exact law_end O XS (hpost _)

set_option maxRecDepth 100000 in
set_option maxHeartbeats 4000000 in
theorem law_count2 (O : am_ok K X) {nm : String} {aL : Nat → Int64} {xs : Nat → Int32} {post : Option Value → am_H → Prop} (XS : va_T .int (am_ad K 0) 6 (fun j => .int (xs j)) (am_A K) K.1 K.1.heap) (hx : xs 1 = 2) (hpost : ∀ h, post (some (.int 1)) h) : am_W K X (m_Law_law nm) 100 600000 7302250 1183 601315 297 [(0, .ref 0), (1, .ref 128), (2, .ref 160), (3, .int 0)] [] (1311, p1_f X aL) post := by
  refine am_aload_n d_Law_law_297 rfl rfl ?_
  refine am_aload_n d_Law_law_298 rfl rfl ?_
  refine am_iload_n d_Law_law_299 rfl rfl ?_
  refine am_iconst (v := 1) d_Law_law_300 (by decide) ?_
  refine am_iadd d_Law_law_301 ?_
  refine am_topi (v := 1) (by decide) ?_
  refine am_ialdE (f := fun j => .int (xs j)) (v := .int 2) XS d_Law_law_302 (am_in (by decide) (by decide)) (by show Value.int (xs 1) = _; rw [hx]) ?_
  refine am_callV O (a_count2_c O (by exact q_128) (by exact q_154) (by exact q_155)) rfl (by exact q_128) (by decide) (by decide) rfl rfl l_Law_53 ⟨w_1462, w_1463⟩ rfl (Nat.le_of_ble_eq_true rfl) d_Law_law_303 (by omega) (by omega) (by omega) (fun v h' hp => ?_)
  obtain ⟨n1, f1⟩ := h'
  obtain ⟨rfl, e1, g_1311, g_1312, g_1313, g_1314, g_1315, g_1316, g_1317, g_1318, g_155, fr1⟩ := hp
  obtain rfl : n1 = 1319 := e1
  have fr1 := fun (x : Nat) (hx : x ∉ ([1311, 1312, 1313, 1314, 1315, 1316, 1317, 1318, 155] : List Nat)) => (show f1 x = _ from fr1 x hx)
  have h_160 : f1 160 = .inr (14, [.ref 161, .ref 162, .int 0, .int 0, .int 0, .int 0, .int 0, .int 0, .int 0, .int 0, .int 0, .long 0, .ref 163, .ref 170, .ref 171, .ref 172, .ref 173, .ref 174, .ref 175, .ref 176, .int 0, .ref 177, .null, .ref 184, .int 0, .int 0, .ref 185, .int 0, .ref 186, .int 0, .ref 187, .ref 204, .ref 221, .ref 238, .int 0, .int 0, .ref 239, .ref 240, .ref 245, .ref 250, .ref 255, .int 0, .int 0, .int 0, .int 0, .int 0, .int 0, .ref 260, .ref 261, .ref 262, .ref 263, .ref 264, .int 0]) := (fr1 160 (by decide)).trans q_160
  have h_187 : f1 187 = .inr (13, [.ref 188, .ref 189, .ref 190, .ref 191, .ref 192, .ref 193, .ref 198, .ref 203, .int 0, .int 0, .int 0, .int 0]) := (fr1 187 (by decide)).trans q_187
  refine am_aload_n d_Law_law_306 rfl rfl ?_
  refine am_aload_n d_Law_law_307 rfl rfl ?_
  refine am_iload_n d_Law_law_308 rfl rfl ?_
  refine am_iconst (v := 1) d_Law_law_309 (by decide) ?_
  refine am_iadd d_Law_law_310 ?_
  refine am_topi (v := 1) (by decide) ?_
  refine am_ialdE (f := fun j => .int (xs j)) (v := .int 2) XS d_Law_law_311 (am_in (by decide) (by decide)) (by show Value.int (xs 1) = _; rw [hx]) ?_
  refine am_callV O (a_count2_m O (by exact h_160) (by exact h_187)) rfl (by exact h_160) (by decide) (by decide) rfl rfl l_Law_56 ⟨w_2178, w_2179⟩ rfl (Nat.le_of_ble_eq_true rfl) d_Law_law_312 (by omega) (by omega) (by omega) (fun v h' hp => ?_)
  obtain ⟨rfl, rfl⟩ := hp
  refine am_icmp_eq (tgt := 320) d_Law_law_315 (by decide) (fun _ => ?_) (fun c => absurd rfl c)
  exact law_end O XS (hpost _)

set_option maxRecDepth 100000 in
set_option maxHeartbeats 4000000 in
theorem law_count3 (O : am_ok K X) {nm : String} {aL : Nat → Int64} {xs : Nat → Int32} {post : Option Value → am_H → Prop} (XS : va_T .int (am_ad K 0) 6 (fun j => .int (xs j)) (am_A K) K.1 K.1.heap) (hx : xs 1 = 3) (hpost : ∀ h, post (some (.int 1)) h) : am_W K X (m_Law_law nm) 100 600000 7302250 1183 601315 297 [(0, .ref 0), (1, .ref 128), (2, .ref 160), (3, .int 0)] [] (1311, p1_f X aL) post := by
  refine am_aload_n d_Law_law_297 rfl rfl ?_
  refine am_aload_n d_Law_law_298 rfl rfl ?_
  refine am_iload_n d_Law_law_299 rfl rfl ?_
  refine am_iconst (v := 1) d_Law_law_300 (by decide) ?_
  refine am_iadd d_Law_law_301 ?_
  refine am_topi (v := 1) (by decide) ?_
  refine am_ialdE (f := fun j => .int (xs j)) (v := .int 3) XS d_Law_law_302 (am_in (by decide) (by decide)) (by show Value.int (xs 1) = _; rw [hx]) ?_
  refine am_callV O (a_count3_c O (by exact q_128) (by exact q_154) (by exact q_155)) rfl (by exact q_128) (by decide) (by decide) rfl rfl l_Law_53 ⟨w_1462, w_1463⟩ rfl (Nat.le_of_ble_eq_true rfl) d_Law_law_303 (by omega) (by omega) (by omega) (fun v h' hp => ?_)
  obtain ⟨n1, f1⟩ := h'
  obtain ⟨rfl, e1, g_1311, g_1312, g_1313, g_1314, g_1315, g_1316, g_1317, g_1318, g_155, fr1⟩ := hp
  obtain rfl : n1 = 1319 := e1
  have fr1 := fun (x : Nat) (hx : x ∉ ([1311, 1312, 1313, 1314, 1315, 1316, 1317, 1318, 155] : List Nat)) => (show f1 x = _ from fr1 x hx)
  have h_160 : f1 160 = .inr (14, [.ref 161, .ref 162, .int 0, .int 0, .int 0, .int 0, .int 0, .int 0, .int 0, .int 0, .int 0, .long 0, .ref 163, .ref 170, .ref 171, .ref 172, .ref 173, .ref 174, .ref 175, .ref 176, .int 0, .ref 177, .null, .ref 184, .int 0, .int 0, .ref 185, .int 0, .ref 186, .int 0, .ref 187, .ref 204, .ref 221, .ref 238, .int 0, .int 0, .ref 239, .ref 240, .ref 245, .ref 250, .ref 255, .int 0, .int 0, .int 0, .int 0, .int 0, .int 0, .ref 260, .ref 261, .ref 262, .ref 263, .ref 264, .int 0]) := (fr1 160 (by decide)).trans q_160
  have h_187 : f1 187 = .inr (13, [.ref 188, .ref 189, .ref 190, .ref 191, .ref 192, .ref 193, .ref 198, .ref 203, .int 0, .int 0, .int 0, .int 0]) := (fr1 187 (by decide)).trans q_187
  refine am_aload_n d_Law_law_306 rfl rfl ?_
  refine am_aload_n d_Law_law_307 rfl rfl ?_
  refine am_iload_n d_Law_law_308 rfl rfl ?_
  refine am_iconst (v := 1) d_Law_law_309 (by decide) ?_
  refine am_iadd d_Law_law_310 ?_
  refine am_topi (v := 1) (by decide) ?_
  refine am_ialdE (f := fun j => .int (xs j)) (v := .int 3) XS d_Law_law_311 (am_in (by decide) (by decide)) (by show Value.int (xs 1) = _; rw [hx]) ?_
  refine am_callV O (a_count3_m O (by exact h_160) (by exact h_187)) rfl (by exact h_160) (by decide) (by decide) rfl rfl l_Law_56 ⟨w_2178, w_2179⟩ rfl (Nat.le_of_ble_eq_true rfl) d_Law_law_312 (by omega) (by omega) (by omega) (fun v h' hp => ?_)
  obtain ⟨rfl, rfl⟩ := hp
  refine am_icmp_eq (tgt := 320) d_Law_law_315 (by decide) (fun _ => ?_) (fun c => absurd rfl c)
  exact law_end O XS (hpost _)

set_option maxRecDepth 100000 in
set_option maxHeartbeats 4000000 in
theorem law_count4 (O : am_ok K X) {nm : String} {aL : Nat → Int64} {xs : Nat → Int32} {post : Option Value → am_H → Prop} (XS : va_T .int (am_ad K 0) 6 (fun j => .int (xs j)) (am_A K) K.1 K.1.heap) (hx : xs 1 = 4) (hpost : ∀ h, post (some (.int 1)) h) : am_W K X (m_Law_law nm) 100 600000 7302250 1183 601315 297 [(0, .ref 0), (1, .ref 128), (2, .ref 160), (3, .int 0)] [] (1311, p1_f X aL) post := by
  refine am_aload_n d_Law_law_297 rfl rfl ?_
  refine am_aload_n d_Law_law_298 rfl rfl ?_
  refine am_iload_n d_Law_law_299 rfl rfl ?_
  refine am_iconst (v := 1) d_Law_law_300 (by decide) ?_
  refine am_iadd d_Law_law_301 ?_
  refine am_topi (v := 1) (by decide) ?_
  refine am_ialdE (f := fun j => .int (xs j)) (v := .int 4) XS d_Law_law_302 (am_in (by decide) (by decide)) (by show Value.int (xs 1) = _; rw [hx]) ?_
  refine am_callV O (a_count4_c O (by exact q_128) (by exact q_154) (by exact q_155)) rfl (by exact q_128) (by decide) (by decide) rfl rfl l_Law_53 ⟨w_1462, w_1463⟩ rfl (Nat.le_of_ble_eq_true rfl) d_Law_law_303 (by omega) (by omega) (by omega) (fun v h' hp => ?_)
  obtain ⟨n1, f1⟩ := h'
  obtain ⟨rfl, e1, g_1311, g_1312, g_1313, g_1314, g_1315, g_1316, g_1317, g_1318, g_155, fr1⟩ := hp
  obtain rfl : n1 = 1319 := e1
  have fr1 := fun (x : Nat) (hx : x ∉ ([1311, 1312, 1313, 1314, 1315, 1316, 1317, 1318, 155] : List Nat)) => (show f1 x = _ from fr1 x hx)
  have h_160 : f1 160 = .inr (14, [.ref 161, .ref 162, .int 0, .int 0, .int 0, .int 0, .int 0, .int 0, .int 0, .int 0, .int 0, .long 0, .ref 163, .ref 170, .ref 171, .ref 172, .ref 173, .ref 174, .ref 175, .ref 176, .int 0, .ref 177, .null, .ref 184, .int 0, .int 0, .ref 185, .int 0, .ref 186, .int 0, .ref 187, .ref 204, .ref 221, .ref 238, .int 0, .int 0, .ref 239, .ref 240, .ref 245, .ref 250, .ref 255, .int 0, .int 0, .int 0, .int 0, .int 0, .int 0, .ref 260, .ref 261, .ref 262, .ref 263, .ref 264, .int 0]) := (fr1 160 (by decide)).trans q_160
  refine am_aload_n d_Law_law_306 rfl rfl ?_
  refine am_aload_n d_Law_law_307 rfl rfl ?_
  refine am_iload_n d_Law_law_308 rfl rfl ?_
  refine am_iconst (v := 1) d_Law_law_309 (by decide) ?_
  refine am_iadd d_Law_law_310 ?_
  refine am_topi (v := 1) (by decide) ?_
  refine am_ialdE (f := fun j => .int (xs j)) (v := .int 4) XS d_Law_law_311 (am_in (by decide) (by decide)) (by show Value.int (xs 1) = _; rw [hx]) ?_
  refine am_callV O (a_count4_m O (by exact h_160)) rfl (by exact h_160) (by decide) (by decide) rfl rfl l_Law_56 ⟨w_2178, w_2179⟩ rfl (Nat.le_of_ble_eq_true rfl) d_Law_law_312 (by omega) (by omega) (by omega) (fun v h' hp => ?_)
  obtain ⟨rfl, rfl⟩ := hp
  refine am_icmp_eq (tgt := 320) d_Law_law_315 (by decide) (fun _ => ?_) (fun c => absurd rfl c)
  exact law_end O XS (hpost _)

set_option maxRecDepth 100000 in
set_option maxHeartbeats 4000000 in
theorem law_count5 (O : am_ok K X) {nm : String} {aL : Nat → Int64} {xs : Nat → Int32} {post : Option Value → am_H → Prop} (XS : va_T .int (am_ad K 0) 6 (fun j => .int (xs j)) (am_A K) K.1 K.1.heap) (hx : xs 1 = 5) (hpost : ∀ h, post (some (.int 1)) h) : am_W K X (m_Law_law nm) 100 600000 7302250 1183 601315 297 [(0, .ref 0), (1, .ref 128), (2, .ref 160), (3, .int 0)] [] (1311, p1_f X aL) post := by
  refine am_aload_n d_Law_law_297 rfl rfl ?_
  refine am_aload_n d_Law_law_298 rfl rfl ?_
  refine am_iload_n d_Law_law_299 rfl rfl ?_
  refine am_iconst (v := 1) d_Law_law_300 (by decide) ?_
  refine am_iadd d_Law_law_301 ?_
  refine am_topi (v := 1) (by decide) ?_
  refine am_ialdE (f := fun j => .int (xs j)) (v := .int 5) XS d_Law_law_302 (am_in (by decide) (by decide)) (by show Value.int (xs 1) = _; rw [hx]) ?_
  refine am_callV O (a_count5_c O (by exact q_128) (by exact q_154) (by exact q_155)) rfl (by exact q_128) (by decide) (by decide) rfl rfl l_Law_53 ⟨w_1462, w_1463⟩ rfl (Nat.le_of_ble_eq_true rfl) d_Law_law_303 (by omega) (by omega) (by omega) (fun v h' hp => ?_)
  obtain ⟨n1, f1⟩ := h'
  obtain ⟨rfl, e1, g_1311, g_1312, g_1313, g_1314, g_1315, g_1316, g_1317, g_1318, g_155, fr1⟩ := hp
  obtain rfl : n1 = 1319 := e1
  have fr1 := fun (x : Nat) (hx : x ∉ ([1311, 1312, 1313, 1314, 1315, 1316, 1317, 1318, 155] : List Nat)) => (show f1 x = _ from fr1 x hx)
  have h_160 : f1 160 = .inr (14, [.ref 161, .ref 162, .int 0, .int 0, .int 0, .int 0, .int 0, .int 0, .int 0, .int 0, .int 0, .long 0, .ref 163, .ref 170, .ref 171, .ref 172, .ref 173, .ref 174, .ref 175, .ref 176, .int 0, .ref 177, .null, .ref 184, .int 0, .int 0, .ref 185, .int 0, .ref 186, .int 0, .ref 187, .ref 204, .ref 221, .ref 238, .int 0, .int 0, .ref 239, .ref 240, .ref 245, .ref 250, .ref 255, .int 0, .int 0, .int 0, .int 0, .int 0, .int 0, .ref 260, .ref 261, .ref 262, .ref 263, .ref 264, .int 0]) := (fr1 160 (by decide)).trans q_160
  refine am_aload_n d_Law_law_306 rfl rfl ?_
  refine am_aload_n d_Law_law_307 rfl rfl ?_
  refine am_iload_n d_Law_law_308 rfl rfl ?_
  refine am_iconst (v := 1) d_Law_law_309 (by decide) ?_
  refine am_iadd d_Law_law_310 ?_
  refine am_topi (v := 1) (by decide) ?_
  refine am_ialdE (f := fun j => .int (xs j)) (v := .int 5) XS d_Law_law_311 (am_in (by decide) (by decide)) (by show Value.int (xs 1) = _; rw [hx]) ?_
  refine am_callV O (a_count5_m O (by exact h_160)) rfl (by exact h_160) (by decide) (by decide) rfl rfl l_Law_56 ⟨w_2178, w_2179⟩ rfl (Nat.le_of_ble_eq_true rfl) d_Law_law_312 (by omega) (by omega) (by omega) (fun v h' hp => ?_)
  obtain ⟨rfl, rfl⟩ := hp
  refine am_icmp_eq (tgt := 320) d_Law_law_315 (by decide) (fun _ => ?_) (fun c => absurd rfl c)
  exact law_end O XS (hpost _)

set_option maxRecDepth 100000 in
set_option maxHeartbeats 4000000 in
theorem law_count6 (O : am_ok K X) {nm : String} {aL : Nat → Int64} {xs : Nat → Int32} {post : Option Value → am_H → Prop} (XS : va_T .int (am_ad K 0) 6 (fun j => .int (xs j)) (am_A K) K.1 K.1.heap) (hx : xs 1 = 6) (hpost : ∀ h, post (some (.int 1)) h) : am_W K X (m_Law_law nm) 100 600000 7302250 1183 601315 297 [(0, .ref 0), (1, .ref 128), (2, .ref 160), (3, .int 0)] [] (1311, p1_f X aL) post := by
  refine am_aload_n d_Law_law_297 rfl rfl ?_
  refine am_aload_n d_Law_law_298 rfl rfl ?_
  refine am_iload_n d_Law_law_299 rfl rfl ?_
  refine am_iconst (v := 1) d_Law_law_300 (by decide) ?_
  refine am_iadd d_Law_law_301 ?_
  refine am_topi (v := 1) (by decide) ?_
  refine am_ialdE (f := fun j => .int (xs j)) (v := .int 6) XS d_Law_law_302 (am_in (by decide) (by decide)) (by show Value.int (xs 1) = _; rw [hx]) ?_
  refine am_callV O (a_count6_c O (by exact q_128) (by exact q_154) (by exact q_155)) rfl (by exact q_128) (by decide) (by decide) rfl rfl l_Law_53 ⟨w_1462, w_1463⟩ rfl (Nat.le_of_ble_eq_true rfl) d_Law_law_303 (by omega) (by omega) (by omega) (fun v h' hp => ?_)
  obtain ⟨n1, f1⟩ := h'
  obtain ⟨rfl, e1, g_1311, g_1312, g_1313, g_1314, g_1315, g_1316, g_1317, g_1318, g_155, fr1⟩ := hp
  obtain rfl : n1 = 1319 := e1
  have fr1 := fun (x : Nat) (hx : x ∉ ([1311, 1312, 1313, 1314, 1315, 1316, 1317, 1318, 155] : List Nat)) => (show f1 x = _ from fr1 x hx)
  have h_160 : f1 160 = .inr (14, [.ref 161, .ref 162, .int 0, .int 0, .int 0, .int 0, .int 0, .int 0, .int 0, .int 0, .int 0, .long 0, .ref 163, .ref 170, .ref 171, .ref 172, .ref 173, .ref 174, .ref 175, .ref 176, .int 0, .ref 177, .null, .ref 184, .int 0, .int 0, .ref 185, .int 0, .ref 186, .int 0, .ref 187, .ref 204, .ref 221, .ref 238, .int 0, .int 0, .ref 239, .ref 240, .ref 245, .ref 250, .ref 255, .int 0, .int 0, .int 0, .int 0, .int 0, .int 0, .ref 260, .ref 261, .ref 262, .ref 263, .ref 264, .int 0]) := (fr1 160 (by decide)).trans q_160
  refine am_aload_n d_Law_law_306 rfl rfl ?_
  refine am_aload_n d_Law_law_307 rfl rfl ?_
  refine am_iload_n d_Law_law_308 rfl rfl ?_
  refine am_iconst (v := 1) d_Law_law_309 (by decide) ?_
  refine am_iadd d_Law_law_310 ?_
  refine am_topi (v := 1) (by decide) ?_
  refine am_ialdE (f := fun j => .int (xs j)) (v := .int 6) XS d_Law_law_311 (am_in (by decide) (by decide)) (by show Value.int (xs 1) = _; rw [hx]) ?_
  refine am_callV O (a_count6_m O (by exact h_160)) rfl (by exact h_160) (by decide) (by decide) rfl rfl l_Law_56 ⟨w_2178, w_2179⟩ rfl (Nat.le_of_ble_eq_true rfl) d_Law_law_312 (by omega) (by omega) (by omega) (fun v h' hp => ?_)
  obtain ⟨rfl, rfl⟩ := hp
  refine am_icmp_eq (tgt := 320) d_Law_law_315 (by decide) (fun _ => ?_) (fun c => absurd rfl c)
  exact law_end O XS (hpost _)

set_option maxRecDepth 100000 in
set_option maxHeartbeats 4000000 in
theorem law_count7 (O : am_ok K X) {nm : String} {aL : Nat → Int64} {xs : Nat → Int32} {post : Option Value → am_H → Prop} (XS : va_T .int (am_ad K 0) 6 (fun j => .int (xs j)) (am_A K) K.1 K.1.heap) (hx : xs 1 = 7) (hpost : ∀ h, post (some (.int 1)) h) : am_W K X (m_Law_law nm) 100 600000 7302250 1183 601315 297 [(0, .ref 0), (1, .ref 128), (2, .ref 160), (3, .int 0)] [] (1311, p1_f X aL) post := by
  refine am_aload_n d_Law_law_297 rfl rfl ?_
  refine am_aload_n d_Law_law_298 rfl rfl ?_
  refine am_iload_n d_Law_law_299 rfl rfl ?_
  refine am_iconst (v := 1) d_Law_law_300 (by decide) ?_
  refine am_iadd d_Law_law_301 ?_
  refine am_topi (v := 1) (by decide) ?_
  refine am_ialdE (f := fun j => .int (xs j)) (v := .int 7) XS d_Law_law_302 (am_in (by decide) (by decide)) (by show Value.int (xs 1) = _; rw [hx]) ?_
  refine am_callV O (a_count7_c O (by exact q_128) (by exact q_154) (by exact q_155)) rfl (by exact q_128) (by decide) (by decide) rfl rfl l_Law_53 ⟨w_1462, w_1463⟩ rfl (Nat.le_of_ble_eq_true rfl) d_Law_law_303 (by omega) (by omega) (by omega) (fun v h' hp => ?_)
  obtain ⟨n1, f1⟩ := h'
  obtain ⟨rfl, e1, g_1311, g_1312, g_1313, g_1314, g_1315, g_1316, g_1317, g_1318, g_155, fr1⟩ := hp
  obtain rfl : n1 = 1319 := e1
  have fr1 := fun (x : Nat) (hx : x ∉ ([1311, 1312, 1313, 1314, 1315, 1316, 1317, 1318, 155] : List Nat)) => (show f1 x = _ from fr1 x hx)
  have h_160 : f1 160 = .inr (14, [.ref 161, .ref 162, .int 0, .int 0, .int 0, .int 0, .int 0, .int 0, .int 0, .int 0, .int 0, .long 0, .ref 163, .ref 170, .ref 171, .ref 172, .ref 173, .ref 174, .ref 175, .ref 176, .int 0, .ref 177, .null, .ref 184, .int 0, .int 0, .ref 185, .int 0, .ref 186, .int 0, .ref 187, .ref 204, .ref 221, .ref 238, .int 0, .int 0, .ref 239, .ref 240, .ref 245, .ref 250, .ref 255, .int 0, .int 0, .int 0, .int 0, .int 0, .int 0, .ref 260, .ref 261, .ref 262, .ref 263, .ref 264, .int 0]) := (fr1 160 (by decide)).trans q_160
  refine am_aload_n d_Law_law_306 rfl rfl ?_
  refine am_aload_n d_Law_law_307 rfl rfl ?_
  refine am_iload_n d_Law_law_308 rfl rfl ?_
  refine am_iconst (v := 1) d_Law_law_309 (by decide) ?_
  refine am_iadd d_Law_law_310 ?_
  refine am_topi (v := 1) (by decide) ?_
  refine am_ialdE (f := fun j => .int (xs j)) (v := .int 7) XS d_Law_law_311 (am_in (by decide) (by decide)) (by show Value.int (xs 1) = _; rw [hx]) ?_
  refine am_callV O (a_count7_m O (by exact h_160)) rfl (by exact h_160) (by decide) (by decide) rfl rfl l_Law_56 ⟨w_2178, w_2179⟩ rfl (Nat.le_of_ble_eq_true rfl) d_Law_law_312 (by omega) (by omega) (by omega) (fun v h' hp => ?_)
  obtain ⟨rfl, rfl⟩ := hp
  refine am_icmp_eq (tgt := 320) d_Law_law_315 (by decide) (fun _ => ?_) (fun c => absurd rfl c)
  exact law_end O XS (hpost _)

set_option maxRecDepth 100000 in
set_option maxHeartbeats 4000000 in
theorem law_countx (O : am_ok K X) {nm : String} {aL : Nat → Int64} {xs : Nat → Int32} {post : Option Value → am_H → Prop} (XS : va_T .int (am_ad K 0) 6 (fun j => .int (xs j)) (am_A K) K.1 K.1.heap) (hx : (xs 1).toInt < 0 ∨ 7 < (xs 1).toInt) (hpost : ∀ h, post (some (.int 1)) h) : am_W K X (m_Law_law nm) 100 600000 7302250 1183 601315 297 [(0, .ref 0), (1, .ref 128), (2, .ref 160), (3, .int 0)] [] (1311, p1_f X aL) post := by
  refine am_aload_n d_Law_law_297 rfl rfl ?_
  refine am_aload_n d_Law_law_298 rfl rfl ?_
  refine am_iload_n d_Law_law_299 rfl rfl ?_
  refine am_iconst (v := 1) d_Law_law_300 (by decide) ?_
  refine am_iadd d_Law_law_301 ?_
  refine am_topi (v := 1) (by decide) ?_
  refine am_ialdE (f := fun j => .int (xs j)) (v := .int (xs 1)) XS d_Law_law_302 (am_in (by decide) (by decide)) rfl ?_
  refine am_callV O (a_countx_c O hx (by exact q_128) (by exact q_154) (by exact q_155)) rfl (by exact q_128) (by decide) (by decide) rfl rfl l_Law_53 ⟨w_1462, w_1463⟩ rfl (Nat.le_of_ble_eq_true rfl) d_Law_law_303 (by omega) (by omega) (by omega) (fun v h' hp => ?_)
  obtain ⟨n1, f1⟩ := h'
  obtain ⟨rfl, e1, g_1311, g_1312, g_1313, g_1314, g_1315, g_1316, g_1317, g_1318, g_155, fr1⟩ := hp
  obtain rfl : n1 = 1319 := e1
  have fr1 := fun (x : Nat) (hx : x ∉ ([1311, 1312, 1313, 1314, 1315, 1316, 1317, 1318, 155] : List Nat)) => (show f1 x = _ from fr1 x hx)
  have h_160 : f1 160 = .inr (14, [.ref 161, .ref 162, .int 0, .int 0, .int 0, .int 0, .int 0, .int 0, .int 0, .int 0, .int 0, .long 0, .ref 163, .ref 170, .ref 171, .ref 172, .ref 173, .ref 174, .ref 175, .ref 176, .int 0, .ref 177, .null, .ref 184, .int 0, .int 0, .ref 185, .int 0, .ref 186, .int 0, .ref 187, .ref 204, .ref 221, .ref 238, .int 0, .int 0, .ref 239, .ref 240, .ref 245, .ref 250, .ref 255, .int 0, .int 0, .int 0, .int 0, .int 0, .int 0, .ref 260, .ref 261, .ref 262, .ref 263, .ref 264, .int 0]) := (fr1 160 (by decide)).trans q_160
  refine am_aload_n d_Law_law_306 rfl rfl ?_
  refine am_aload_n d_Law_law_307 rfl rfl ?_
  refine am_iload_n d_Law_law_308 rfl rfl ?_
  refine am_iconst (v := 1) d_Law_law_309 (by decide) ?_
  refine am_iadd d_Law_law_310 ?_
  refine am_topi (v := 1) (by decide) ?_
  refine am_ialdE (f := fun j => .int (xs j)) (v := .int (xs 1)) XS d_Law_law_311 (am_in (by decide) (by decide)) rfl ?_
  refine am_callV O (a_countx_m O hx) rfl (by exact h_160) (by decide) (by decide) rfl rfl l_Law_56 ⟨w_2178, w_2179⟩ rfl (Nat.le_of_ble_eq_true rfl) d_Law_law_312 (by omega) (by omega) (by omega) (fun v h' hp => ?_)
  obtain ⟨rfl, rfl⟩ := hp
  refine am_icmp_eq (tgt := 320) d_Law_law_315 (by decide) (fun _ => ?_) (fun c => absurd rfl c)
  exact law_end O XS (hpost _)
end
