/-! The reference's constructor, its walk. -/
theorem c_model {ν : Nat → Nat → Bool} {σ : Mm} {x y z : Int32} {cn cp cr : Nat} (hF : Fr 258 ν σ) (hx : fmv x (nI 3) = nI cn) (hy : fmv y (nI 3) = nI cp) (hz : fmv z (nI 9) = nI cr) (hn : cn < 3) (hp : cp < 3) (hr : cr < 9) : MetN mX12_init [.ref 258, .int x, .int y, .int z] (259, ν, σ) (53, 7324) (fun w => ∃ τ : Mm, w = (312, ovV ν 258 54, τ) ∧ MoI (2 + cn) (1 + cp) (4 + cr) σ τ) := by
  have h0 : kd 258 = (12, 65) := by decide +kernel
  have h1 : kd 259 = (20, 16) := by decide +kernel
  have h2 : kd 260 = (20, 16) := by decide +kernel
  have h3 : kd 261 = (20, 16) := by decide +kernel
  have h4 : kd 262 = (20, 20) := by decide +kernel
  have h5 : kd 263 = (20, 10) := by decide +kernel
  have h6 : kd 264 = (20, 600) := by decide +kernel
  have h7 : kd 265 = (20, 600) := by decide +kernel
  have h8 : kd 266 = (22, 600) := by decide +kernel
  have h9 : kd 267 = (20, 600) := by decide +kernel
  have h10 : kd 268 = (20, 2) := by decide +kernel
  have h11 : kd 269 = (20, 2) := by decide +kernel
  have h12 : kd 270 = (20, 2) := by decide +kernel
  have h13 : kd 271 = (20, 2) := by decide +kernel
  have h14 : kd 272 = (20, 2) := by decide +kernel
  have h15 : kd 273 = (20, 2) := by decide +kernel
  have h16 : kd 274 = (21, 2) := by decide +kernel
  have h17 : kd 275 = (20, 2) := by decide +kernel
  have h18 : kd 276 = (20, 2) := by decide +kernel
  have h19 : kd 277 = (20, 2) := by decide +kernel
  have h20 : kd 278 = (20, 2) := by decide +kernel
  have h21 : kd 279 = (20, 40) := by decide +kernel
  have h22 : kd 280 = (20, 40) := by decide +kernel
  have h23 : kd 281 = (22, 40) := by decide +kernel
  have h24 : kd 282 = (20, 40) := by decide +kernel
  have h25 : kd 283 = (20, 160) := by decide +kernel
  have h26 : kd 284 = (20, 40) := by decide +kernel
  have h27 : kd 285 = (21, 40) := by decide +kernel
  have h28 : kd 286 = (20, 160) := by decide +kernel
  have h29 : kd 287 = (20, 20) := by decide +kernel
  have h30 : kd 288 = (20, 20) := by decide +kernel
  have h31 : kd 289 = (20, 20) := by decide +kernel
  have h32 : kd 290 = (20, 20) := by decide +kernel
  have h33 : kd 291 = (20, 20) := by decide +kernel
  have h34 : kd 292 = (22, 20) := by decide +kernel
  have h35 : kd 293 = (20, 20) := by decide +kernel
  have h36 : kd 294 = (21, 20) := by decide +kernel
  have h37 : kd 295 = (20, 20) := by decide +kernel
  have h38 : kd 296 = (22, 20) := by decide +kernel
  have h39 : kd 297 = (21, 8) := by decide +kernel
  have h40 : kd 298 = (20, 32) := by decide +kernel
  have h41 : kd 299 = (20, 32) := by decide +kernel
  have h42 : kd 300 = (20, 32) := by decide +kernel
  have h43 : kd 301 = (20, 3000) := by decide +kernel
  have h44 : kd 302 = (20, 300) := by decide +kernel
  have h45 : kd 303 = (21, 4) := by decide +kernel
  have h46 : kd 304 = (21, 4) := by decide +kernel
  have h47 : kd 305 = (20, 80) := by decide +kernel
  have h48 : kd 306 = (20, 8) := by decide +kernel
  have h49 : kd 307 = (20, 8) := by decide +kernel
  have h50 : kd 308 = (20, 8) := by decide +kernel
  have h51 : kd 309 = (20, 8) := by decide +kernel
  have h52 : kd 310 = (20, 480) := by decide +kernel
  have h53 : kd 311 = (20, 60) := by decide +kernel
  refine GN.met (by decide) rfl (Nat.le_of_ble_eq_true rfl) ?_
  show GN _ _ 0 [some (.ref 258), some (.int x), some (.int y), some (.int z), none] [] (259, ν, σ)
  refine GN.st (z' := (259, setL ν 258 [], σ)) (by rw [setL_nil]) ?_
  refine ngs_aload_n dX12_init_0 rfl rfl ?_
  refine ng_objI dX12_init_1 oX12 ⟨by decide, by decide⟩ ?_
  refine ngs_aload_n dX12_init_4 rfl rfl ?_
  refine ng_bipush (v := nI 16) dX12_init_5 (by decide) ?_
  refine ng_new20 dX12_init_7 h1 (by omega) (by omega) ⟨by first | decide | omega, by first | decide | omega⟩ ((hF.up (by omega)).sl (a := 258) (by omega)) ?_
  refine ng_putRL dX12_init_9 pqX12_7 (kn_of (by omega) h0) (by decide) (Or.inr ⟨_, rfl⟩) (by decide +kernel) ?_
  refine ngs_aload_n dX12_init_12 rfl rfl ?_
  refine ng_bipush (v := nI 16) dX12_init_13 (by decide) ?_
  refine ng_new20 dX12_init_15 h2 (by omega) (by omega) ⟨by first | decide | omega, by first | decide | omega⟩ ((hF.up (by omega)).sl (a := 258) (by omega)) ?_
  refine ng_putRL dX12_init_17 pqX12_13 (kn_of (by omega) h0) (by decide) (Or.inr ⟨_, rfl⟩) (by decide +kernel) ?_
  refine ngs_aload_n dX12_init_20 rfl rfl ?_
  refine ng_bipush (v := nI 16) dX12_init_21 (by decide) ?_
  refine ng_new20 dX12_init_23 h3 (by omega) (by omega) ⟨by first | decide | omega, by first | decide | omega⟩ ((hF.up (by omega)).sl (a := 258) (by omega)) ?_
  refine ng_putRL dX12_init_25 pqX12_16 (kn_of (by omega) h0) (by decide) (Or.inr ⟨_, rfl⟩) (by decide +kernel) ?_
  refine ngs_aload_n dX12_init_28 rfl rfl ?_
  refine ng_bipush (v := nI 20) dX12_init_29 (by decide) ?_
  refine ng_new20 dX12_init_31 h4 (by omega) (by omega) ⟨by first | decide | omega, by first | decide | omega⟩ ((hF.up (by omega)).sl (a := 258) (by omega)) ?_
  refine ng_putRL dX12_init_33 pqX12_19 (kn_of (by omega) h0) (by decide) (Or.inr ⟨_, rfl⟩) (by decide +kernel) ?_
  refine ngs_aload_n dX12_init_36 rfl rfl ?_
  refine ng_bipush (v := nI 10) dX12_init_37 (by decide) ?_
  refine ng_new20 dX12_init_39 h5 (by omega) (by omega) ⟨by first | decide | omega, by first | decide | omega⟩ ((hF.up (by omega)).sl (a := 258) (by omega)) ?_
  refine ng_putRL dX12_init_41 pqX12_22 (kn_of (by omega) h0) (by decide) (Or.inr ⟨_, rfl⟩) (by decide +kernel) ?_
  refine ngs_aload_n dX12_init_44 rfl rfl ?_
  refine ng_sipush (v := nI 600) dX12_init_45 (by decide) ?_
  refine ng_new20 dX12_init_48 h6 (by omega) (by omega) ⟨by first | decide | omega, by first | decide | omega⟩ ((hF.up (by omega)).sl (a := 258) (by omega)) ?_
  refine ng_putRL dX12_init_50 pqX12_25 (kn_of (by omega) h0) (by decide) (Or.inr ⟨_, rfl⟩) (by decide +kernel) ?_
  refine ngs_aload_n dX12_init_53 rfl rfl ?_
  refine ng_sipush (v := nI 600) dX12_init_54 (by decide) ?_
  refine ng_new20 dX12_init_57 h7 (by omega) (by omega) ⟨by first | decide | omega, by first | decide | omega⟩ ((hF.up (by omega)).sl (a := 258) (by omega)) ?_
  refine ng_putRL dX12_init_59 pqX12_28 (kn_of (by omega) h0) (by decide) (Or.inr ⟨_, rfl⟩) (by decide +kernel) ?_
  refine ngs_aload_n dX12_init_62 rfl rfl ?_
  refine ng_sipush (v := nI 600) dX12_init_63 (by decide) ?_
  refine ng_new22 dX12_init_66 h8 (by omega) (by omega) ⟨by first | decide | omega, by first | decide | omega⟩ ((hF.up (by omega)).sl (a := 258) (by omega)) ?_
  refine ng_putRL dX12_init_68 pqX12_31 (kn_of (by omega) h0) (by decide) (Or.inr ⟨_, rfl⟩) (by decide +kernel) ?_
  refine ngs_aload_n dX12_init_71 rfl rfl ?_
  refine ng_sipush (v := nI 600) dX12_init_72 (by decide) ?_
  refine ng_new20 dX12_init_75 h9 (by omega) (by omega) ⟨by first | decide | omega, by first | decide | omega⟩ ((hF.up (by omega)).sl (a := 258) (by omega)) ?_
  refine ng_putRL dX12_init_77 pqX12_35 (kn_of (by omega) h0) (by decide) (Or.inr ⟨_, rfl⟩) (by decide +kernel) ?_
  refine ngs_aload_n dX12_init_80 rfl rfl ?_
  refine ng_iconst (v := nI 2) dX12_init_81 (by decide) ?_
  refine ng_putI dX12_init_82 pqX12_38 (kn_of (by omega) h0) (by decide) ?_
  refine ngs_aload_n dX12_init_85 rfl rfl ?_
  refine ng_bipush (v := nI 6) dX12_init_86 (by decide) ?_
  refine ng_putI dX12_init_88 pqX12_42 (kn_of (by omega) h0) (by decide) ?_
  refine ngs_aload_n dX12_init_91 rfl rfl ?_
  refine ng_iconst (v := nI 2) dX12_init_92 (by decide) ?_
  refine ng_new20 dX12_init_93 h10 (by omega) (by omega) ⟨by first | decide | omega, by first | decide | omega⟩ ((((hF.up (by omega)).sl (a := 258) (by omega)).pi (by omega)).pi (by omega)) ?_
  refine ng_putRL dX12_init_95 pqX12_45 (kn_of (by omega) h0) (by decide) (Or.inr ⟨_, rfl⟩) (by decide +kernel) ?_
  refine ngs_aload_n dX12_init_98 rfl rfl ?_
  refine ng_iconst (v := nI 2) dX12_init_99 (by decide) ?_
  refine ng_new20 dX12_init_100 h11 (by omega) (by omega) ⟨by first | decide | omega, by first | decide | omega⟩ ((((hF.up (by omega)).sl (a := 258) (by omega)).pi (by omega)).pi (by omega)) ?_
  refine ng_putRL dX12_init_102 pqX12_48 (kn_of (by omega) h0) (by decide) (Or.inr ⟨_, rfl⟩) (by decide +kernel) ?_
  refine ngs_aload_n dX12_init_105 rfl rfl ?_
  refine ng_iconst (v := nI 2) dX12_init_106 (by decide) ?_
  refine ng_new20 dX12_init_107 h12 (by omega) (by omega) ⟨by first | decide | omega, by first | decide | omega⟩ ((((hF.up (by omega)).sl (a := 258) (by omega)).pi (by omega)).pi (by omega)) ?_
  refine ng_dup dX12_init_109 rfl ?_
  refine ng_iconst (v := nI 0) dX12_init_110 (by decide) ?_
  refine ng_iconst (v := nI 1) dX12_init_111 (by decide) ?_
  refine ng_iast dX12_init_112 (kn_of (by omega) h12) (by decide) ?_
  refine ng_dup dX12_init_113 rfl ?_
  refine ng_iconst (v := nI 1) dX12_init_114 (by decide) ?_
  refine ng_iconst (v := nI 1) dX12_init_115 (by decide) ?_
  refine ng_iast dX12_init_116 (kn_of (by omega) h12) (by decide) ?_
  refine ng_putRL dX12_init_117 pqX12_51 (kn_of (by omega) h0) (by decide) (Or.inr ⟨_, rfl⟩) (by decide +kernel) ?_
  refine ngs_aload_n dX12_init_120 rfl rfl ?_
  refine ng_iconst (v := nI 2) dX12_init_121 (by decide) ?_
  refine ng_new20 dX12_init_122 h13 (by omega) (by omega) ⟨by first | decide | omega, by first | decide | omega⟩ ((((((hF.up (by omega)).sl (a := 258) (by omega)).pi (by omega)).pi (by omega)).pi (by omega)).pi (by omega)) ?_
  refine ng_dup dX12_init_124 rfl ?_
  refine ng_iconst (v := nI 0) dX12_init_125 (by decide) ?_
  refine ng_iconst (v := nI 1) dX12_init_126 (by decide) ?_
  refine ng_iast dX12_init_127 (kn_of (by omega) h13) (by decide) ?_
  refine ng_dup dX12_init_128 rfl ?_
  refine ng_iconst (v := nI 1) dX12_init_129 (by decide) ?_
  refine ng_iconst (v := nI 1) dX12_init_130 (by decide) ?_
  refine ng_iast dX12_init_131 (kn_of (by omega) h13) (by decide) ?_
  refine ng_putRL dX12_init_132 pqX12_54 (kn_of (by omega) h0) (by decide) (Or.inr ⟨_, rfl⟩) (by decide +kernel) ?_
  refine ngs_aload_n dX12_init_135 rfl rfl ?_
  refine ng_iconst (v := nI 2) dX12_init_136 (by decide) ?_
  refine ng_new20 dX12_init_137 h14 (by omega) (by omega) ⟨by first | decide | omega, by first | decide | omega⟩ ((((((((hF.up (by omega)).sl (a := 258) (by omega)).pi (by omega)).pi (by omega)).pi (by omega)).pi (by omega)).pi (by omega)).pi (by omega)) ?_
  refine ng_putRL dX12_init_139 pqX12_57 (kn_of (by omega) h0) (by decide) (Or.inr ⟨_, rfl⟩) (by decide +kernel) ?_
  refine ngs_aload_n dX12_init_142 rfl rfl ?_
  refine ng_iconst (v := nI 2) dX12_init_143 (by decide) ?_
  refine ng_new20 dX12_init_144 h15 (by omega) (by omega) ⟨by first | decide | omega, by first | decide | omega⟩ ((((((((hF.up (by omega)).sl (a := 258) (by omega)).pi (by omega)).pi (by omega)).pi (by omega)).pi (by omega)).pi (by omega)).pi (by omega)) ?_
  refine ng_putRL dX12_init_146 pqX12_60 (kn_of (by omega) h0) (by decide) (Or.inr ⟨_, rfl⟩) (by decide +kernel) ?_
  refine ngs_aload_n dX12_init_149 rfl rfl ?_
  refine ng_iconst (v := nI 2) dX12_init_150 (by decide) ?_
  refine ng_new21 dX12_init_151 h16 (by omega) (by omega) ⟨by first | decide | omega, by first | decide | omega⟩ ((((((((hF.up (by omega)).sl (a := 258) (by omega)).pi (by omega)).pi (by omega)).pi (by omega)).pi (by omega)).pi (by omega)).pi (by omega)) ?_
  refine ng_putRL dX12_init_153 pqX12_63 (kn_of (by omega) h0) (by decide) (Or.inr ⟨_, rfl⟩) (by decide +kernel) ?_
  refine ngs_aload_n dX12_init_156 rfl rfl ?_
  refine ng_iconst (v := nI 2) dX12_init_157 (by decide) ?_
  refine ng_new20 dX12_init_158 h17 (by omega) (by omega) ⟨by first | decide | omega, by first | decide | omega⟩ ((((((((hF.up (by omega)).sl (a := 258) (by omega)).pi (by omega)).pi (by omega)).pi (by omega)).pi (by omega)).pi (by omega)).pi (by omega)) ?_
  refine ng_putRL dX12_init_160 pqX12_67 (kn_of (by omega) h0) (by decide) (Or.inr ⟨_, rfl⟩) (by decide +kernel) ?_
  refine ngs_aload_n dX12_init_163 rfl rfl ?_
  refine ng_iconst (v := nI 2) dX12_init_164 (by decide) ?_
  refine ng_new20 dX12_init_165 h18 (by omega) (by omega) ⟨by first | decide | omega, by first | decide | omega⟩ ((((((((hF.up (by omega)).sl (a := 258) (by omega)).pi (by omega)).pi (by omega)).pi (by omega)).pi (by omega)).pi (by omega)).pi (by omega)) ?_
  refine ng_putRL dX12_init_167 pqX12_70 (kn_of (by omega) h0) (by decide) (Or.inr ⟨_, rfl⟩) (by decide +kernel) ?_
  refine ngs_aload_n dX12_init_170 rfl rfl ?_
  refine ng_iconst (v := nI 2) dX12_init_171 (by decide) ?_
  refine ng_new20 dX12_init_172 h19 (by omega) (by omega) ⟨by first | decide | omega, by first | decide | omega⟩ ((((((((hF.up (by omega)).sl (a := 258) (by omega)).pi (by omega)).pi (by omega)).pi (by omega)).pi (by omega)).pi (by omega)).pi (by omega)) ?_
  refine ng_putRL dX12_init_174 pqX12_73 (kn_of (by omega) h0) (by decide) (Or.inr ⟨_, rfl⟩) (by decide +kernel) ?_
  refine ngs_aload_n dX12_init_177 rfl rfl ?_
  refine ng_iconst (v := nI 2) dX12_init_178 (by decide) ?_
  refine ng_new20 dX12_init_179 h20 (by omega) (by omega) ⟨by first | decide | omega, by first | decide | omega⟩ ((((((((hF.up (by omega)).sl (a := 258) (by omega)).pi (by omega)).pi (by omega)).pi (by omega)).pi (by omega)).pi (by omega)).pi (by omega)) ?_
  refine ng_putRL dX12_init_181 pqX12_76 (kn_of (by omega) h0) (by decide) (Or.inr ⟨_, rfl⟩) (by decide +kernel) ?_
  refine ngs_aload_n dX12_init_184 rfl rfl ?_
  refine ng_bipush (v := nI 40) dX12_init_185 (by decide) ?_
  refine ng_new20 dX12_init_187 h21 (by omega) (by omega) ⟨by first | decide | omega, by first | decide | omega⟩ ((((((((hF.up (by omega)).sl (a := 258) (by omega)).pi (by omega)).pi (by omega)).pi (by omega)).pi (by omega)).pi (by omega)).pi (by omega)) ?_
  refine ng_putRL dX12_init_189 pqX12_79 (kn_of (by omega) h0) (by decide) (Or.inr ⟨_, rfl⟩) (by decide +kernel) ?_
  refine ngs_aload_n dX12_init_192 rfl rfl ?_
  refine ng_bipush (v := nI 40) dX12_init_193 (by decide) ?_
  refine ng_new20 dX12_init_195 h22 (by omega) (by omega) ⟨by first | decide | omega, by first | decide | omega⟩ ((((((((hF.up (by omega)).sl (a := 258) (by omega)).pi (by omega)).pi (by omega)).pi (by omega)).pi (by omega)).pi (by omega)).pi (by omega)) ?_
  refine ng_putRL dX12_init_197 pqX12_82 (kn_of (by omega) h0) (by decide) (Or.inr ⟨_, rfl⟩) (by decide +kernel) ?_
  refine ngs_aload_n dX12_init_200 rfl rfl ?_
  refine ng_bipush (v := nI 40) dX12_init_201 (by decide) ?_
  refine ng_new22 dX12_init_203 h23 (by omega) (by omega) ⟨by first | decide | omega, by first | decide | omega⟩ ((((((((hF.up (by omega)).sl (a := 258) (by omega)).pi (by omega)).pi (by omega)).pi (by omega)).pi (by omega)).pi (by omega)).pi (by omega)) ?_
  refine ng_putRL dX12_init_205 pqX12_85 (kn_of (by omega) h0) (by decide) (Or.inr ⟨_, rfl⟩) (by decide +kernel) ?_
  refine ngs_aload_n dX12_init_208 rfl rfl ?_
  refine ng_bipush (v := nI 40) dX12_init_209 (by decide) ?_
  refine ng_new20 dX12_init_211 h24 (by omega) (by omega) ⟨by first | decide | omega, by first | decide | omega⟩ ((((((((hF.up (by omega)).sl (a := 258) (by omega)).pi (by omega)).pi (by omega)).pi (by omega)).pi (by omega)).pi (by omega)).pi (by omega)) ?_
  refine ng_putRL dX12_init_213 pqX12_88 (kn_of (by omega) h0) (by decide) (Or.inr ⟨_, rfl⟩) (by decide +kernel) ?_
  refine ngs_aload_n dX12_init_216 rfl rfl ?_
  refine ng_sipush (v := nI 160) dX12_init_217 (by decide) ?_
  refine ng_new20 dX12_init_220 h25 (by omega) (by omega) ⟨by first | decide | omega, by first | decide | omega⟩ ((((((((hF.up (by omega)).sl (a := 258) (by omega)).pi (by omega)).pi (by omega)).pi (by omega)).pi (by omega)).pi (by omega)).pi (by omega)) ?_
  refine ng_putRL dX12_init_222 pqX12_91 (kn_of (by omega) h0) (by decide) (Or.inr ⟨_, rfl⟩) (by decide +kernel) ?_
  refine ngs_aload_n dX12_init_225 rfl rfl ?_
  refine ng_bipush (v := nI 40) dX12_init_226 (by decide) ?_
  refine ng_new20 dX12_init_228 h26 (by omega) (by omega) ⟨by first | decide | omega, by first | decide | omega⟩ ((((((((hF.up (by omega)).sl (a := 258) (by omega)).pi (by omega)).pi (by omega)).pi (by omega)).pi (by omega)).pi (by omega)).pi (by omega)) ?_
  refine ng_putRL dX12_init_230 pqX12_94 (kn_of (by omega) h0) (by decide) (Or.inr ⟨_, rfl⟩) (by decide +kernel) ?_
  refine ngs_aload_n dX12_init_233 rfl rfl ?_
  refine ng_bipush (v := nI 40) dX12_init_234 (by decide) ?_
  refine ng_new21 dX12_init_236 h27 (by omega) (by omega) ⟨by first | decide | omega, by first | decide | omega⟩ ((((((((hF.up (by omega)).sl (a := 258) (by omega)).pi (by omega)).pi (by omega)).pi (by omega)).pi (by omega)).pi (by omega)).pi (by omega)) ?_
  refine ng_putRL dX12_init_238 pqX12_97 (kn_of (by omega) h0) (by decide) (Or.inr ⟨_, rfl⟩) (by decide +kernel) ?_
  refine ngs_aload_n dX12_init_241 rfl rfl ?_
  refine ng_sipush (v := nI 160) dX12_init_242 (by decide) ?_
  refine ng_new20 dX12_init_245 h28 (by omega) (by omega) ⟨by first | decide | omega, by first | decide | omega⟩ ((((((((hF.up (by omega)).sl (a := 258) (by omega)).pi (by omega)).pi (by omega)).pi (by omega)).pi (by omega)).pi (by omega)).pi (by omega)) ?_
  refine ng_putRL dX12_init_247 pqX12_100 (kn_of (by omega) h0) (by decide) (Or.inr ⟨_, rfl⟩) (by decide +kernel) ?_
  refine ngs_aload_n dX12_init_250 rfl rfl ?_
  refine ng_bipush (v := nI 20) dX12_init_251 (by decide) ?_
  refine ng_new20 dX12_init_253 h29 (by omega) (by omega) ⟨by first | decide | omega, by first | decide | omega⟩ ((((((((hF.up (by omega)).sl (a := 258) (by omega)).pi (by omega)).pi (by omega)).pi (by omega)).pi (by omega)).pi (by omega)).pi (by omega)) ?_
  refine ng_putRL dX12_init_255 pqX12_103 (kn_of (by omega) h0) (by decide) (Or.inr ⟨_, rfl⟩) (by decide +kernel) ?_
  refine ngs_aload_n dX12_init_258 rfl rfl ?_
  refine ng_bipush (v := nI 20) dX12_init_259 (by decide) ?_
  refine ng_new20 dX12_init_261 h30 (by omega) (by omega) ⟨by first | decide | omega, by first | decide | omega⟩ ((((((((hF.up (by omega)).sl (a := 258) (by omega)).pi (by omega)).pi (by omega)).pi (by omega)).pi (by omega)).pi (by omega)).pi (by omega)) ?_
  refine ng_putRL dX12_init_263 pqX12_106 (kn_of (by omega) h0) (by decide) (Or.inr ⟨_, rfl⟩) (by decide +kernel) ?_
  refine ngs_aload_n dX12_init_266 rfl rfl ?_
  refine ng_bipush (v := nI 20) dX12_init_267 (by decide) ?_
  refine ng_new20 dX12_init_269 h31 (by omega) (by omega) ⟨by first | decide | omega, by first | decide | omega⟩ ((((((((hF.up (by omega)).sl (a := 258) (by omega)).pi (by omega)).pi (by omega)).pi (by omega)).pi (by omega)).pi (by omega)).pi (by omega)) ?_
  refine ng_putRL dX12_init_271 pqX12_109 (kn_of (by omega) h0) (by decide) (Or.inr ⟨_, rfl⟩) (by decide +kernel) ?_
  refine ngs_aload_n dX12_init_274 rfl rfl ?_
  refine ng_bipush (v := nI 20) dX12_init_275 (by decide) ?_
  refine ng_new20 dX12_init_277 h32 (by omega) (by omega) ⟨by first | decide | omega, by first | decide | omega⟩ ((((((((hF.up (by omega)).sl (a := 258) (by omega)).pi (by omega)).pi (by omega)).pi (by omega)).pi (by omega)).pi (by omega)).pi (by omega)) ?_
  refine ng_putRL dX12_init_279 pqX12_112 (kn_of (by omega) h0) (by decide) (Or.inr ⟨_, rfl⟩) (by decide +kernel) ?_
  refine ngs_aload_n dX12_init_282 rfl rfl ?_
  refine ng_bipush (v := nI 20) dX12_init_283 (by decide) ?_
  refine ng_new20 dX12_init_285 h33 (by omega) (by omega) ⟨by first | decide | omega, by first | decide | omega⟩ ((((((((hF.up (by omega)).sl (a := 258) (by omega)).pi (by omega)).pi (by omega)).pi (by omega)).pi (by omega)).pi (by omega)).pi (by omega)) ?_
  refine ng_putRL dX12_init_287 pqX12_115 (kn_of (by omega) h0) (by decide) (Or.inr ⟨_, rfl⟩) (by decide +kernel) ?_
  refine ngs_aload_n dX12_init_290 rfl rfl ?_
  refine ng_bipush (v := nI 20) dX12_init_291 (by decide) ?_
  refine ng_new22 dX12_init_293 h34 (by omega) (by omega) ⟨by first | decide | omega, by first | decide | omega⟩ ((((((((hF.up (by omega)).sl (a := 258) (by omega)).pi (by omega)).pi (by omega)).pi (by omega)).pi (by omega)).pi (by omega)).pi (by omega)) ?_
  refine ng_putRL dX12_init_295 pqX12_118 (kn_of (by omega) h0) (by decide) (Or.inr ⟨_, rfl⟩) (by decide +kernel) ?_
  refine ngs_aload_n dX12_init_298 rfl rfl ?_
  refine ng_bipush (v := nI 20) dX12_init_299 (by decide) ?_
  refine ng_new20 dX12_init_301 h35 (by omega) (by omega) ⟨by first | decide | omega, by first | decide | omega⟩ ((((((((hF.up (by omega)).sl (a := 258) (by omega)).pi (by omega)).pi (by omega)).pi (by omega)).pi (by omega)).pi (by omega)).pi (by omega)) ?_
  refine ng_putRL dX12_init_303 pqX12_121 (kn_of (by omega) h0) (by decide) (Or.inr ⟨_, rfl⟩) (by decide +kernel) ?_
  refine ngs_aload_n dX12_init_306 rfl rfl ?_
  refine ng_bipush (v := nI 20) dX12_init_307 (by decide) ?_
  refine ng_new21 dX12_init_309 h36 (by omega) (by omega) ⟨by first | decide | omega, by first | decide | omega⟩ ((((((((hF.up (by omega)).sl (a := 258) (by omega)).pi (by omega)).pi (by omega)).pi (by omega)).pi (by omega)).pi (by omega)).pi (by omega)) ?_
  refine ng_putRL dX12_init_311 pqX12_124 (kn_of (by omega) h0) (by decide) (Or.inr ⟨_, rfl⟩) (by decide +kernel) ?_
  refine ngs_aload_n dX12_init_314 rfl rfl ?_
  refine ng_bipush (v := nI 20) dX12_init_315 (by decide) ?_
  refine ng_new20 dX12_init_317 h37 (by omega) (by omega) ⟨by first | decide | omega, by first | decide | omega⟩ ((((((((hF.up (by omega)).sl (a := 258) (by omega)).pi (by omega)).pi (by omega)).pi (by omega)).pi (by omega)).pi (by omega)).pi (by omega)) ?_
  refine ng_putRL dX12_init_319 pqX12_127 (kn_of (by omega) h0) (by decide) (Or.inr ⟨_, rfl⟩) (by decide +kernel) ?_
  refine ngs_aload_n dX12_init_322 rfl rfl ?_
  refine ng_bipush (v := nI 20) dX12_init_323 (by decide) ?_
  refine ng_new22 dX12_init_325 h38 (by omega) (by omega) ⟨by first | decide | omega, by first | decide | omega⟩ ((((((((hF.up (by omega)).sl (a := 258) (by omega)).pi (by omega)).pi (by omega)).pi (by omega)).pi (by omega)).pi (by omega)).pi (by omega)) ?_
  refine ng_putRL dX12_init_327 pqX12_130 (kn_of (by omega) h0) (by decide) (Or.inr ⟨_, rfl⟩) (by decide +kernel) ?_
  refine ngs_aload_n dX12_init_330 rfl rfl ?_
  refine ng_bipush (v := nI 8) dX12_init_331 (by decide) ?_
  refine ng_new21 dX12_init_333 h39 (by omega) (by omega) ⟨by first | decide | omega, by first | decide | omega⟩ ((((((((hF.up (by omega)).sl (a := 258) (by omega)).pi (by omega)).pi (by omega)).pi (by omega)).pi (by omega)).pi (by omega)).pi (by omega)) ?_
  refine ng_putRL dX12_init_335 pqX12_133 (kn_of (by omega) h0) (by decide) (Or.inr ⟨_, rfl⟩) (by decide +kernel) ?_
  refine ngs_aload_n dX12_init_338 rfl rfl ?_
  refine ng_bipush (v := nI 32) dX12_init_339 (by decide) ?_
  refine ng_new20 dX12_init_341 h40 (by omega) (by omega) ⟨by first | decide | omega, by first | decide | omega⟩ ((((((((hF.up (by omega)).sl (a := 258) (by omega)).pi (by omega)).pi (by omega)).pi (by omega)).pi (by omega)).pi (by omega)).pi (by omega)) ?_
  refine ng_putRL dX12_init_343 pqX12_136 (kn_of (by omega) h0) (by decide) (Or.inr ⟨_, rfl⟩) (by decide +kernel) ?_
  refine ngs_aload_n dX12_init_346 rfl rfl ?_
  refine ng_bipush (v := nI 32) dX12_init_347 (by decide) ?_
  refine ng_new20 dX12_init_349 h41 (by omega) (by omega) ⟨by first | decide | omega, by first | decide | omega⟩ ((((((((hF.up (by omega)).sl (a := 258) (by omega)).pi (by omega)).pi (by omega)).pi (by omega)).pi (by omega)).pi (by omega)).pi (by omega)) ?_
  refine ng_putRL dX12_init_351 pqX12_139 (kn_of (by omega) h0) (by decide) (Or.inr ⟨_, rfl⟩) (by decide +kernel) ?_
  refine ngs_aload_n dX12_init_354 rfl rfl ?_
  refine ng_bipush (v := nI 32) dX12_init_355 (by decide) ?_
  refine ng_new20 dX12_init_357 h42 (by omega) (by omega) ⟨by first | decide | omega, by first | decide | omega⟩ ((((((((hF.up (by omega)).sl (a := 258) (by omega)).pi (by omega)).pi (by omega)).pi (by omega)).pi (by omega)).pi (by omega)).pi (by omega)) ?_
  refine ng_putRL dX12_init_359 pqX12_142 (kn_of (by omega) h0) (by decide) (Or.inr ⟨_, rfl⟩) (by decide +kernel) ?_
  refine ngs_aload_n dX12_init_362 rfl rfl ?_
  refine ng_sipush (v := nI 3000) dX12_init_363 (by decide) ?_
  refine ng_new20 dX12_init_366 h43 (by omega) (by omega) ⟨by first | decide | omega, by first | decide | omega⟩ ((((((((hF.up (by omega)).sl (a := 258) (by omega)).pi (by omega)).pi (by omega)).pi (by omega)).pi (by omega)).pi (by omega)).pi (by omega)) ?_
  refine ng_putRL dX12_init_368 pqX12_145 (kn_of (by omega) h0) (by decide) (Or.inr ⟨_, rfl⟩) (by decide +kernel) ?_
  refine ngs_aload_n dX12_init_371 rfl rfl ?_
  refine ng_sipush (v := nI 300) dX12_init_372 (by decide) ?_
  refine ng_new20 dX12_init_375 h44 (by omega) (by omega) ⟨by first | decide | omega, by first | decide | omega⟩ ((((((((hF.up (by omega)).sl (a := 258) (by omega)).pi (by omega)).pi (by omega)).pi (by omega)).pi (by omega)).pi (by omega)).pi (by omega)) ?_
  refine ng_putRL dX12_init_377 pqX12_148 (kn_of (by omega) h0) (by decide) (Or.inr ⟨_, rfl⟩) (by decide +kernel) ?_
  refine ngs_aload_n dX12_init_380 rfl rfl ?_
  refine ng_iconst (v := nI 4) dX12_init_381 (by decide) ?_
  refine ng_new21 dX12_init_382 h45 (by omega) (by omega) ⟨by first | decide | omega, by first | decide | omega⟩ ((((((((hF.up (by omega)).sl (a := 258) (by omega)).pi (by omega)).pi (by omega)).pi (by omega)).pi (by omega)).pi (by omega)).pi (by omega)) ?_
  refine ng_putRL dX12_init_384 pqX12_151 (kn_of (by omega) h0) (by decide) (Or.inr ⟨_, rfl⟩) (by decide +kernel) ?_
  refine ngs_aload_n dX12_init_387 rfl rfl ?_
  refine ng_iconst (v := nI 4) dX12_init_388 (by decide) ?_
  refine ng_new21 dX12_init_389 h46 (by omega) (by omega) ⟨by first | decide | omega, by first | decide | omega⟩ ((((((((hF.up (by omega)).sl (a := 258) (by omega)).pi (by omega)).pi (by omega)).pi (by omega)).pi (by omega)).pi (by omega)).pi (by omega)) ?_
  refine ng_putRL dX12_init_391 pqX12_154 (kn_of (by omega) h0) (by decide) (Or.inr ⟨_, rfl⟩) (by decide +kernel) ?_
  refine ngs_aload_n dX12_init_394 rfl rfl ?_
  refine ng_bipush (v := nI 80) dX12_init_395 (by decide) ?_
  refine ng_new20 dX12_init_397 h47 (by omega) (by omega) ⟨by first | decide | omega, by first | decide | omega⟩ ((((((((hF.up (by omega)).sl (a := 258) (by omega)).pi (by omega)).pi (by omega)).pi (by omega)).pi (by omega)).pi (by omega)).pi (by omega)) ?_
  refine ng_putRL dX12_init_399 pqX12_157 (kn_of (by omega) h0) (by decide) (Or.inr ⟨_, rfl⟩) (by decide +kernel) ?_
  refine ngs_aload_n dX12_init_402 rfl rfl ?_
  refine ng_bipush (v := nI 8) dX12_init_403 (by decide) ?_
  refine ng_new20 dX12_init_405 h48 (by omega) (by omega) ⟨by first | decide | omega, by first | decide | omega⟩ ((((((((hF.up (by omega)).sl (a := 258) (by omega)).pi (by omega)).pi (by omega)).pi (by omega)).pi (by omega)).pi (by omega)).pi (by omega)) ?_
  refine ng_putRL dX12_init_407 pqX12_160 (kn_of (by omega) h0) (by decide) (Or.inr ⟨_, rfl⟩) (by decide +kernel) ?_
  refine ngs_aload_n dX12_init_410 rfl rfl ?_
  refine ng_bipush (v := nI 8) dX12_init_411 (by decide) ?_
  refine ng_new20 dX12_init_413 h49 (by omega) (by omega) ⟨by first | decide | omega, by first | decide | omega⟩ ((((((((hF.up (by omega)).sl (a := 258) (by omega)).pi (by omega)).pi (by omega)).pi (by omega)).pi (by omega)).pi (by omega)).pi (by omega)) ?_
  refine ng_putRL dX12_init_415 pqX12_163 (kn_of (by omega) h0) (by decide) (Or.inr ⟨_, rfl⟩) (by decide +kernel) ?_
  refine ngs_aload_n dX12_init_418 rfl rfl ?_
  refine ng_bipush (v := nI 8) dX12_init_419 (by decide) ?_
  refine ng_new20 dX12_init_421 h50 (by omega) (by omega) ⟨by first | decide | omega, by first | decide | omega⟩ ((((((((hF.up (by omega)).sl (a := 258) (by omega)).pi (by omega)).pi (by omega)).pi (by omega)).pi (by omega)).pi (by omega)).pi (by omega)) ?_
  refine ng_putRL dX12_init_423 pqX12_166 (kn_of (by omega) h0) (by decide) (Or.inr ⟨_, rfl⟩) (by decide +kernel) ?_
  refine ngs_aload_n dX12_init_426 rfl rfl ?_
  refine ng_bipush (v := nI 8) dX12_init_427 (by decide) ?_
  refine ng_new20 dX12_init_429 h51 (by omega) (by omega) ⟨by first | decide | omega, by first | decide | omega⟩ ((((((((hF.up (by omega)).sl (a := 258) (by omega)).pi (by omega)).pi (by omega)).pi (by omega)).pi (by omega)).pi (by omega)).pi (by omega)) ?_
  refine ng_putRL dX12_init_431 pqX12_169 (kn_of (by omega) h0) (by decide) (Or.inr ⟨_, rfl⟩) (by decide +kernel) ?_
  refine ngs_aload_n dX12_init_434 rfl rfl ?_
  refine ng_sipush (v := nI 480) dX12_init_435 (by decide) ?_
  refine ng_new20 dX12_init_438 h52 (by omega) (by omega) ⟨by first | decide | omega, by first | decide | omega⟩ ((((((((hF.up (by omega)).sl (a := 258) (by omega)).pi (by omega)).pi (by omega)).pi (by omega)).pi (by omega)).pi (by omega)).pi (by omega)) ?_
  refine ng_putRL dX12_init_440 pqX12_172 (kn_of (by omega) h0) (by decide) (Or.inr ⟨_, rfl⟩) (by decide +kernel) ?_
  refine ngs_aload_n dX12_init_443 rfl rfl ?_
  refine ng_bipush (v := nI 60) dX12_init_444 (by decide) ?_
  refine ng_new20 dX12_init_446 h53 (by omega) (by omega) ⟨by first | decide | omega, by first | decide | omega⟩ ((((((((hF.up (by omega)).sl (a := 258) (by omega)).pi (by omega)).pi (by omega)).pi (by omega)).pi (by omega)).pi (by omega)).pi (by omega)) ?_
  refine ng_putRL dX12_init_448 pqX12_175 (kn_of (by omega) h0) (by decide) (Or.inr ⟨_, rfl⟩) (by decide +kernel) ?_
  refine GN.st (z' := (312, setL ν 258 [64, 63, 62, 61, 60, 59, 58, 57, 56, 53, 52, 50, 49, 48, 47, 46, 45, 44, 43, 42, 41, 40, 39, 38, 37, 36, 35, 34, 33, 32, 31, 30, 29, 28, 27, 26, 25, 24, 23, 22, 21, 20, 19, 18, 14, 13, 12, 11, 10, 8, 6, 5, 4], wI (wI (wI (wI (wI (wI σ 258 15 (nI 2)) 258 16 (nI 6)) 270 0 (nI 1)) 270 1 (nI 1)) 271 0 (nI 1)) 271 1 (nI 1))) (nw_eq rfl rfl rfl) ?_
  refine ngs_aload_n dX12_init_451 rfl rfl ?_
  refine ng_iconst (v := nI 2) dX12_init_452 (by decide) ?_
  refine ngs_iload_n dX12_init_453 rfl rfl ?_
  refine ng_iconst (v := nI 3) dX12_init_454 (by decide) ?_
  refine ng_cSI2 (lo := 312) dX12_init_455 vX12_178 (by decide) ⟨by decide, by decide⟩ (Nat.le_of_ble_eq_true rfl) (fun b k g1 g2 => by omega) (s_mod (Ω := (312, 312)) (by decide)) ?_
  rintro r _ ⟨hr1, rfl⟩
  have hr2 := hr1.trans hx
  clear hr1
  subst hr2
  refine ⟨fun b _ => ⟨rfl, rfl⟩, ?_⟩
  refine ng_iadd dX12_init_458 (nI_add _ _) ?_
  refine ng_putI dX12_init_459 pqX12_182 (kn_of (by omega) h0) (by decide) ?_
  refine ngs_aload_n dX12_init_462 rfl rfl ?_
  refine ng_iconst (v := nI 1) dX12_init_463 (by decide) ?_
  refine ngs_iload_n dX12_init_464 rfl rfl ?_
  refine ng_iconst (v := nI 3) dX12_init_465 (by decide) ?_
  refine ng_cSI2 (lo := 312) dX12_init_466 vX12_178 (by decide) ⟨by decide, by decide⟩ (Nat.le_of_ble_eq_true rfl) (fun b k g1 g2 => by omega) (s_mod (Ω := (312, 312)) (by decide)) ?_
  rintro r _ ⟨hr1, rfl⟩
  have hr2 := hr1.trans hy
  clear hr1
  subst hr2
  refine ⟨fun b _ => ⟨rfl, rfl⟩, ?_⟩
  refine ng_iadd dX12_init_469 (nI_add _ _) ?_
  refine ng_putI dX12_init_470 pqX12_185 (kn_of (by omega) h0) (by decide) ?_
  refine ngs_aload_n dX12_init_473 rfl rfl ?_
  refine ng_iconst (v := nI 4) dX12_init_474 (by decide) ?_
  refine ngs_iload_n dX12_init_475 rfl rfl ?_
  refine ng_bipush (v := nI 9) dX12_init_476 (by decide) ?_
  refine ng_cSI2 (lo := 312) dX12_init_478 vX12_178 (by decide) ⟨by decide, by decide⟩ (Nat.le_of_ble_eq_true rfl) (fun b k g1 g2 => by omega) (s_mod (Ω := (312, 312)) (by decide)) ?_
  rintro r _ ⟨hr1, rfl⟩
  have hr2 := hr1.trans hz
  clear hr1
  subst hr2
  refine ⟨fun b _ => ⟨rfl, rfl⟩, ?_⟩
  refine ng_iadd dX12_init_481 (nI_add _ _) ?_
  refine ng_putI dX12_init_482 pqX12_188 (kn_of (by omega) h0) (by decide) ?_
  have hV : setL ν 258 [64, 63, 62, 61, 60, 59, 58, 57, 56, 53, 52, 50, 49, 48, 47, 46, 45, 44, 43, 42, 41, 40, 39, 38, 37, 36, 35, 34, 33, 32, 31, 30, 29, 28, 27, 26, 25, 24, 23, 22, 21, 20, 19, 18, 14, 13, 12, 11, 10, 8, 6, 5, 4] = ovV ν 258 54 := ovV_leaf (c := 54) hF (fun k hk => isR_sub (by decide) ((isP_obj h0 (by decide)).symm.trans hk)) (fun b k hb1 hb2 => by
    have hq : ∀ b, b < 312 → 258 < b → 20 ≤ (kd b).1 ∧ (kd b).1 < 24 := by decide +kernel
    obtain ⟨g1, g2⟩ := hq b hb2 hb1
    exact isP_row (a := b) (c := (kd b).1) (n := (kd b).2) rfl ⟨by omega, g2⟩) (by omega)
  rw [hV]
  have hν : ∀ b k, 258 ≤ b → b < 312 → ovV ν 258 54 b k = true := fun b k g1 g2 => by
    show (decide (258 ≤ b ∧ b < 258 + 54) || _) = true
    rw [decide_eq_true (⟨g1, by omega⟩ : 258 ≤ b ∧ b < 258 + 54)]; rfl
  generalize hs1 : wI (wI (wI (wI (wI (wI (wI (wI (wI σ 258 15 (nI 2)) 258 16 (nI 6)) 270 0 (nI 1)) 270 1 (nI 1)) 271 0 (nI 1)) 271 1 (nI 1)) 258 1 (nI (2 + cn))) 258 2 (nI (1 + cp))) 258 3 (nI (4 + cr)) = σ1
  have e1 : ∀ b k, 258 ≤ b → b < 312 → b ≠ 259 → b ≠ 260 → σ1.1 b k = ivR (2 + cn) (1 + cp) (4 + cr) b k := fun b k g1 g2 g3 g4 => by
    subst hs1
    have hz0 := (hF b g1 k).2.1
    by_cases q1 : b = 258
    · subst q1
      rw [wI_self, wI_self, wI_self, wI_ne (by decide), wI_ne (by decide), wI_ne (by decide), wI_ne (by decide), wI_self, wI_self, hz0, ivR_258]
      by_cases a1 : k = 1
      · subst a1; rfl
      by_cases a2 : k = 2
      · subst a2; rfl
      by_cases a3 : k = 3
      · subst a3; rfl
      rw [if_neg a3, if_neg a2, if_neg a1, if_neg a1, if_neg a2, if_neg a3]
      by_cases a4 : k = 15
      · subst a4; rfl
      · by_cases a5 : k = 16
        · subst a5; rfl
        · rw [if_neg a5, if_neg a4, if_neg a4, if_neg a5]
    · rw [wI_ne q1, wI_ne q1, wI_ne q1]
      by_cases q2 : b = 271
      · subst q2
        rw [wI_self, wI_self, wI_ne (by decide), wI_ne (by decide), wI_ne (by decide), wI_ne (by decide), hz0, ivR_271]
        by_cases a1 : k = 1
        · subst a1; rfl
        · by_cases a2 : k = 0
          · subst a2; rfl
          · rw [if_neg a1, if_neg a2, if_neg (by omega)]
      · rw [wI_ne q2, wI_ne q2]
        by_cases q3 : b = 270
        · subst q3
          rw [wI_self, wI_self, wI_ne (by decide), wI_ne (by decide), hz0, ivR_270]
          by_cases a1 : k = 1
          · subst a1; rfl
          · by_cases a2 : k = 0
            · subst a2; rfl
            · rw [if_neg a1, if_neg a2, if_neg (by omega)]
        · rw [wI_ne q3, wI_ne q3, wI_ne q1, wI_ne q1, ivR_o q1 g3 g4 q3 q2]; exact hz0
  have e2 : ∀ b, b < 258 ∨ 312 ≤ b → σ1.1 b = σ.1 b := fun b hb => by
    subst hs1
    rw [wI_ne (by omega), wI_ne (by omega), wI_ne (by omega), wI_ne (by omega), wI_ne (by omega), wI_ne (by omega), wI_ne (by omega), wI_ne (by omega), wI_ne (by omega)]
  have e3 : σ1.2 = σ.2 := by subst hs1; rfl
  have e4 : ∀ k, σ1.1 259 k = 0 ∧ σ1.1 260 k = 0 := fun k => by
    subst hs1
    constructor
    · rw [wI_ne (by omega), wI_ne (by omega), wI_ne (by omega), wI_ne (by omega), wI_ne (by omega), wI_ne (by omega), wI_ne (by omega), wI_ne (by omega), wI_ne (by omega)]; exact (hF 259 (by decide) k).2.1
    · rw [wI_ne (by omega), wI_ne (by omega), wI_ne (by omega), wI_ne (by omega), wI_ne (by omega), wI_ne (by omega), wI_ne (by omega), wI_ne (by omega), wI_ne (by omega)]; exact (hF 260 (by decide) k).2.1
  clear hs1
  have f1 : ∀ b k, 258 ≤ b → b < 312 → (plI σ1 16).1 b k = ivR (2 + cn) (1 + cp) (4 + cr) b k := fun b k g1 g2 => by
    show (if b = 259 ∧ k < 16 then (if k / 4 = k % 4 then nI 0 else nI 2) else if b = 260 ∧ k < 16 then nI 2 else σ1.1 b k) = _
    by_cases q1 : b = 259
    · subst q1
      rw [ivR_259]
      by_cases hk : k < 16
      · rw [if_pos (show 259 = 259 ∧ k < 16 from ⟨rfl, hk⟩), if_pos hk]
      · rw [if_neg (show ¬ (259 = 259 ∧ k < 16) by omega), if_neg (show ¬ (259 = 260 ∧ k < 16) by omega), if_neg hk]; exact (e4 k).1
    · by_cases q2 : b = 260
      · subst q2
        rw [ivR_260, if_neg (show ¬ (260 = 259 ∧ k < 16) by omega)]
        by_cases hk : k < 16
        · rw [if_pos (show 260 = 260 ∧ k < 16 from ⟨rfl, hk⟩), if_pos hk]
        · rw [if_neg (show ¬ (260 = 260 ∧ k < 16) by omega), if_neg hk]; exact (e4 k).2
      · rw [if_neg (show ¬ (b = 259 ∧ k < 16) by omega), if_neg (show ¬ (b = 260 ∧ k < 16) by omega)]; exact e1 b k g1 g2 q1 q2
  have f2 : ∀ b, b < 258 ∨ 312 ≤ b → (plI σ1 16).1 b = σ.1 b := fun b hb => by
    funext k
    show (if b = 259 ∧ k < 16 then _ else if b = 260 ∧ k < 16 then _ else σ1.1 b k) = _
    rw [if_neg (by omega), if_neg (by omega), e2 b hb]
  refine ng_iconst (v := nI 0) dX12_init_485 (by decide) ?_
  refine ngs_istore (ls' := [_, _, _, _, _]) dX12_init_486 rfl rfl ?_
  refine GN.st (z' := (312, ovV ν 258 54, plI σ1 0)) (nw_eq rfl rfl (plI_0 σ1)) ?_
  refine c_pl hν ?_ 16 0 (by omega)
  refine ngs_aload_n dX12_init_532 rfl rfl ?_
  have hM : RepM 0 (plI σ1 16) (S0p (2 + cn) (1 + cp) (4 + cr)) := RepM_0p f1 (fun b k g1 g2 => by show σ1.2 b k = 0; rw [e3]; exact (hF b g1 k).2.2)
  refine ng_cVV0 (lo := 258) dX12_init_533 vX12_191 (by decide) ⟨by decide, by decide⟩ (kn_of (by omega) h0) (by decide) (Nat.le_of_ble_eq_true rfl) hν (s_measurez hM (S0p_bd (by omega) (by omega) (by omega))) ?_
  rintro τ ⟨hR, hf⟩
  refine ⟨fun b hb => ⟨hf.1 b (by omega), by rw [hf.2]⟩, ?_⟩
  refine ng_ret dX12_init_536 rfl ⟨by decide, by decide⟩ ?_
  exact ⟨τ, rfl, hf.2.trans e3, fun b hb => (hf.1 b (by omega)).trans (f2 b hb), fun b k g1 g2 g3 => by rw [hf.1 b g3]; exact f1 b k g1 g2, hR⟩
