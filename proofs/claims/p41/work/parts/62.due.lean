/-! The law's isScript: whether an edit is due. -/
def lsd (D W E F Z Y : Int → Int) (o t kd i : Int) : Bool :=
  if kd = 0 then !(lt D o i) && lt W t i else if kd = 1 then (lt D o i && lt W t i) && decide (¬ Z (o + i) = Y (t + i)) else if kd = 2 then (lt D o i && lt W t i) && decide (¬ D (o + i) / 256 % 16 = W (t + i) / 256 % 16) else if kd = 3 then (lt D o i && lt W t i) && decide (¬ D (o + i) / 4096 = W (t + i) / 4096) else if kd = 4 then decide (E (o + i) = 0) && decide (F (t + i) > 0) else if kd = 5 then decide (E (o + i) > 0) && decide (F (t + i) = 0) else lt D o i && !(lt W t i)
section LU
variable {V : ev_V} {d : Nat} {h : ev_H} {P : ev_O → ev_H → Prop} {A B C N M I J O L : Nat} {D W E F Z Y : Int → Int} {o t i v v' pl ed sg kd : Int} {u17 u18 : Option Value}
theorem c_ldue (hD : Rw h A N D) (hE : Rw h C N E) (hZ : Rw h I N Z) (hW : Rw h J M W) (hF : Rw h O M F) (hY : Rw h L M Y) (hr : 0 ≤ o ∧ o + 10 ≤ N) (ht : 0 ≤ t ∧ t + 10 ≤ M) (hi : 0 ≤ i ∧ i < 10) (hk : 0 ≤ kd ∧ kd < 7) (K : ∀ b17 : Bool, En V (d + 1) 14 419 [some (.ref 0), some (.int (iI v)), some (.int (iI v')), some (.ref B), some (.ref A), some (.ref C), some (.ref I), some (.int (iI o)), some (.ref J), some (.ref O), some (.ref L), some (.int (iI t)), some (.int (iI pl)), some (.int (iI ed)), some (.int (iI kd)), some (.int (iI sg)), some (.int (iI i)), some (.int (iI (b2 b17))), u18] [.int (iI (b2 (lsd D W E F Z Y o t kd i)))] h P) : En V (d + 1) 14 114 [some (.ref 0), some (.int (iI v)), some (.int (iI v')), some (.ref B), some (.ref A), some (.ref C), some (.ref I), some (.int (iI o)), some (.ref J), some (.ref O), some (.ref L), some (.int (iI t)), some (.int (iI pl)), some (.int (iI ed)), some (.int (iI kd)), some (.int (iI sg)), some (.int (iI i)), u17, u18] [] h P := by
  obtain ⟨d1, d2, d3, d4, d5⟩ := id hD
  obtain ⟨e1, e2, e3, e4, e5⟩ := id hE
  obtain ⟨z1, z2, z3, z4, z5⟩ := id hZ
  obtain ⟨w1, w2, w3, w4, w5⟩ := id hW
  obtain ⟨f1, f2, f3, f4, f5⟩ := id hF
  obtain ⟨y1, y2, y3, y4, y5⟩ := id hY
  have d5 := d5 (o + i)
  have e5 := e5 (o + i)
  have z5 := z5 (o + i)
  have w5 := w5 (t + i)
  have f5 := f5 (t + i)
  have y5 := y5 (t + i)
  have hN : (N : Int) ≤ 60 := by omega
  have hM : (M : Int) ≤ 60 := by omega
  have yes : lsd D W E F Z Y o t kd i = true → ∀ c, c = true → ∀ b17 : Bool, En V (d + 1) 14 419 [some (.ref 0), some (.int (iI v)), some (.int (iI v')), some (.ref B), some (.ref A), some (.ref C), some (.ref I), some (.int (iI o)), some (.ref J), some (.ref O), some (.ref L), some (.int (iI t)), some (.int (iI pl)), some (.int (iI ed)), some (.int (iI kd)), some (.int (iI sg)), some (.int (iI i)), some (.int (iI (b2 b17))), u18] [.int (iI (b2 c))] h P := fun e c hc b17 => by rw [hc, ← e]; exact K b17
  have no : lsd D W E F Z Y o t kd i = false → ∀ c, c = false → ∀ b17 : Bool, En V (d + 1) 14 419 [some (.ref 0), some (.int (iI v)), some (.int (iI v')), some (.ref B), some (.ref A), some (.ref C), some (.ref I), some (.int (iI o)), some (.ref J), some (.ref O), some (.ref L), some (.int (iI t)), some (.int (iI pl)), some (.int (iI ed)), some (.int (iI kd)), some (.int (iI sg)), some (.int (iI i)), some (.int (iI (b2 b17))), u18] [.int (iI (b2 c))] h P := fun e c hc b17 => by rw [hc, ← e]; exact K b17
  have main : ∀ b : Bool, b = (lt D o i && lt W t i) → En V (d + 1) 14 143 [some (.ref 0), some (.int (iI v)), some (.int (iI v')), some (.ref B), some (.ref A), some (.ref C), some (.ref I), some (.int (iI o)), some (.ref J), some (.ref O), some (.ref L), some (.int (iI t)), some (.int (iI pl)), some (.int (iI ed)), some (.int (iI kd)), some (.int (iI sg)), some (.int (iI i)), u17, u18] [.int (iI (b2 b))] h P := fun b hb => by
    rcases (by omega : kd = 0 ∨ kd = 1 ∨ kd = 2 ∨ kd = 3 ∨ kd = 4 ∨ kd = 5 ∨ kd = 6) with rfl | rfl | rfl | rfl | rfl | rfl | rfl
    · refine n_go f_14_143 rfl (pc' := 145) (ls' := [_, _, _, _, _, _, _, _, _, _, _, _, _, _, _, _, _, _, _]) rfl ?_
      refine n_go f_14_145 rfl (pc' := 147) rfl ?_
      refine n_if_ne f_14_147 rfl rfl (by omega) (fun e9 => absurd e9 (by omega)) (fun _ => ?_)
      refine n_go f_14_150 rfl (pc' := 152) rfl ?_
      refine n_go f_14_152 rfl (pc' := 154) rfl ?_
      refine n_go f_14_154 rfl (pc' := 156) rfl ?_
      refine n_cs (ls' := [_, _, _]) f_14_156 (by decide) m_3 rfl rfl ?_
      refine c_lthere hD (by omega) ?_
      show En V _ 14 159 _ [_] _ _
      refine n_ib_ne f_14_159 rfl rfl (fun a1 => ?_) (fun a1 => ?_)
      · refine n_go f_14_178 rfl (pc' := 179) (st' := .int (iI 0) :: _) rfl ?_
        refine n_go f_14_179 rfl (pc' := 419) rfl ?_
        exact no (by show (!(lt D o i) && lt W t i) = false; rw [a1]; rfl) false rfl _
      · refine n_go f_14_162 rfl (pc' := 164) rfl ?_
        refine n_go f_14_164 rfl (pc' := 166) rfl ?_
        refine n_go f_14_166 rfl (pc' := 168) rfl ?_
        refine n_cs (ls' := [_, _, _]) f_14_168 (by decide) m_3 rfl rfl ?_
        refine c_lthere hW (by omega) ?_
        show En V _ 14 171 _ [_] _ _
        refine n_ib_eq f_14_171 rfl rfl (fun a2 => ?_) (fun a2 => ?_)
        · refine n_go f_14_178 rfl (pc' := 179) (st' := .int (iI 0) :: _) rfl ?_
          refine n_go f_14_179 rfl (pc' := 419) rfl ?_
          exact no (by show (!(lt D o i) && lt W t i) = false; rw [a2, Bool.and_false]) false rfl _
        · refine n_go f_14_174 rfl (pc' := 175) (st' := .int (iI 1) :: _) rfl ?_
          refine n_go f_14_175 rfl (pc' := 419) rfl ?_
          exact yes (by show (!(lt D o i) && lt W t i) = true; rw [a1, a2]; rfl) true rfl _
    · refine n_go f_14_143 rfl (pc' := 145) (ls' := [_, _, _, _, _, _, _, _, _, _, _, _, _, _, _, _, _, _, _]) rfl ?_
      refine n_go f_14_145 rfl (pc' := 147) rfl ?_
      refine n_if_ne f_14_147 rfl rfl (by omega) (fun _ => ?_) (fun e9 => absurd (by omega) e9)
      refine n_go f_14_182 rfl (pc' := 184) rfl ?_
      refine n_go f_14_184 rfl (pc' := 185) (st' := .int (iI 1) :: _) rfl ?_
      refine n_ic_ne f_14_185 rfl rfl ⟨by omega, by omega⟩ (fun e9 => absurd e9 (by omega)) (fun _ => ?_)
      refine n_go f_14_188 rfl (pc' := 190) rfl ?_
      refine n_ib_eq f_14_190 rfl rfl (fun a1 => ?_) (fun a1 => ?_)
      · refine n_go f_14_216 rfl (pc' := 217) (st' := .int (iI 0) :: _) rfl ?_
        refine n_go f_14_217 rfl (pc' := 419) rfl ?_
        exact no (by show ((lt D o i && lt W t i) && decide (¬ Z (o + i) = Y (t + i))) = false; rw [← hb, a1]; rfl) false rfl _
      · refine n_go f_14_193 rfl (pc' := 195) rfl ?_
        refine n_go f_14_195 rfl (pc' := 197) rfl ?_
        refine n_go f_14_197 rfl (pc' := 199) rfl ?_
        refine n_iadd f_14_199 rfl ?_
        refine n_ial f_14_200 rfl (z1) (by unfold ev_ext; omega) (by omega) ?_
        refine n_go f_14_201 rfl (pc' := 203) rfl ?_
        refine n_go f_14_203 rfl (pc' := 205) rfl ?_
        refine n_go f_14_205 rfl (pc' := 207) rfl ?_
        refine n_iadd f_14_207 rfl ?_
        refine n_ial f_14_208 rfl (y1) (by unfold ev_ext; omega) (by omega) ?_
        refine n_ic_eq f_14_209 rfl rfl ⟨by omega, by omega⟩ (fun a2 => ?_) (fun a2 => ?_)
        · refine n_go f_14_216 rfl (pc' := 217) (st' := .int (iI 0) :: _) rfl ?_
          refine n_go f_14_217 rfl (pc' := 419) rfl ?_
          exact no (by show ((lt D o i && lt W t i) && decide (¬ Z (o + i) = Y (t + i))) = false; rw [decide_eq_false (fun q => q a2), Bool.and_false]) false rfl _
        · refine n_go f_14_212 rfl (pc' := 213) (st' := .int (iI 1) :: _) rfl ?_
          refine n_go f_14_213 rfl (pc' := 419) rfl ?_
          exact yes (by show ((lt D o i && lt W t i) && decide (¬ Z (o + i) = Y (t + i))) = true; rw [← hb, a1, decide_eq_true a2]; rfl) true rfl _
    · refine n_go f_14_143 rfl (pc' := 145) (ls' := [_, _, _, _, _, _, _, _, _, _, _, _, _, _, _, _, _, _, _]) rfl ?_
      refine n_go f_14_145 rfl (pc' := 147) rfl ?_
      refine n_if_ne f_14_147 rfl rfl (by omega) (fun _ => ?_) (fun e9 => absurd (by omega) e9)
      refine n_go f_14_182 rfl (pc' := 184) rfl ?_
      refine n_go f_14_184 rfl (pc' := 185) (st' := .int (iI 1) :: _) rfl ?_
      refine n_ic_ne f_14_185 rfl rfl ⟨by omega, by omega⟩ (fun _ => ?_) (fun e9 => absurd (by omega) e9)
      refine n_go f_14_220 rfl (pc' := 222) rfl ?_
      refine n_go f_14_222 rfl (pc' := 223) (st' := .int (iI 2) :: _) rfl ?_
      refine n_ic_ne f_14_223 rfl rfl ⟨by omega, by omega⟩ (fun e9 => absurd e9 (by omega)) (fun _ => ?_)
      refine n_go f_14_226 rfl (pc' := 228) rfl ?_
      refine n_ib_eq f_14_228 rfl rfl (fun a1 => ?_) (fun a1 => ?_)
      · refine n_go f_14_268 rfl (pc' := 269) (st' := .int (iI 0) :: _) rfl ?_
        refine n_go f_14_269 rfl (pc' := 419) rfl ?_
        exact no (by show ((lt D o i && lt W t i) && decide (¬ D (o + i) / 256 % 16 = W (t + i) / 256 % 16)) = false; rw [← hb, a1]; rfl) false rfl _
      · refine n_go f_14_231 rfl (pc' := 233) rfl ?_
        refine n_go f_14_233 rfl (pc' := 235) rfl ?_
        refine n_go f_14_235 rfl (pc' := 237) rfl ?_
        refine n_iadd f_14_237 rfl ?_
        refine n_ial f_14_238 rfl (d1) (by unfold ev_ext; omega) (by omega) ?_
        refine n_sip (m := 256) f_14_239 rfl (by decide) ?_
        refine n_idiv f_14_242 rfl (by omega) ?_
        refine n_bip (m := 16) f_14_243 rfl (by decide) ?_
        refine n_irem f_14_245 rfl (by omega) ?_
        refine n_go f_14_246 rfl (pc' := 248) rfl ?_
        refine n_go f_14_248 rfl (pc' := 250) rfl ?_
        refine n_go f_14_250 rfl (pc' := 252) rfl ?_
        refine n_iadd f_14_252 rfl ?_
        refine n_ial f_14_253 rfl (w1) (by unfold ev_ext; omega) (by omega) ?_
        refine n_sip (m := 256) f_14_254 rfl (by decide) ?_
        refine n_idiv f_14_257 rfl (by omega) ?_
        refine n_bip (m := 16) f_14_258 rfl (by decide) ?_
        refine n_irem f_14_260 rfl (by omega) ?_
        refine n_ic_eq f_14_261 rfl rfl ⟨by omega, by omega⟩ (fun a2 => ?_) (fun a2 => ?_)
        · refine n_go f_14_268 rfl (pc' := 269) (st' := .int (iI 0) :: _) rfl ?_
          refine n_go f_14_269 rfl (pc' := 419) rfl ?_
          exact no (by show ((lt D o i && lt W t i) && decide (¬ D (o + i) / 256 % 16 = W (t + i) / 256 % 16)) = false; rw [decide_eq_false (fun q => q a2), Bool.and_false]) false rfl _
        · refine n_go f_14_264 rfl (pc' := 265) (st' := .int (iI 1) :: _) rfl ?_
          refine n_go f_14_265 rfl (pc' := 419) rfl ?_
          exact yes (by show ((lt D o i && lt W t i) && decide (¬ D (o + i) / 256 % 16 = W (t + i) / 256 % 16)) = true; rw [← hb, a1, decide_eq_true a2]; rfl) true rfl _
    · refine n_go f_14_143 rfl (pc' := 145) (ls' := [_, _, _, _, _, _, _, _, _, _, _, _, _, _, _, _, _, _, _]) rfl ?_
      refine n_go f_14_145 rfl (pc' := 147) rfl ?_
      refine n_if_ne f_14_147 rfl rfl (by omega) (fun _ => ?_) (fun e9 => absurd (by omega) e9)
      refine n_go f_14_182 rfl (pc' := 184) rfl ?_
      refine n_go f_14_184 rfl (pc' := 185) (st' := .int (iI 1) :: _) rfl ?_
      refine n_ic_ne f_14_185 rfl rfl ⟨by omega, by omega⟩ (fun _ => ?_) (fun e9 => absurd (by omega) e9)
      refine n_go f_14_220 rfl (pc' := 222) rfl ?_
      refine n_go f_14_222 rfl (pc' := 223) (st' := .int (iI 2) :: _) rfl ?_
      refine n_ic_ne f_14_223 rfl rfl ⟨by omega, by omega⟩ (fun _ => ?_) (fun e9 => absurd (by omega) e9)
      refine n_go f_14_272 rfl (pc' := 274) rfl ?_
      refine n_go f_14_274 rfl (pc' := 275) (st' := .int (iI 3) :: _) rfl ?_
      refine n_ic_ne f_14_275 rfl rfl ⟨by omega, by omega⟩ (fun e9 => absurd e9 (by omega)) (fun _ => ?_)
      refine n_go f_14_278 rfl (pc' := 280) rfl ?_
      refine n_ib_eq f_14_280 rfl rfl (fun a1 => ?_) (fun a1 => ?_)
      · refine n_go f_14_314 rfl (pc' := 315) (st' := .int (iI 0) :: _) rfl ?_
        refine n_go f_14_315 rfl (pc' := 419) rfl ?_
        exact no (by show ((lt D o i && lt W t i) && decide (¬ D (o + i) / 4096 = W (t + i) / 4096)) = false; rw [← hb, a1]; rfl) false rfl _
      · refine n_go f_14_283 rfl (pc' := 285) rfl ?_
        refine n_go f_14_285 rfl (pc' := 287) rfl ?_
        refine n_go f_14_287 rfl (pc' := 289) rfl ?_
        refine n_iadd f_14_289 rfl ?_
        refine n_ial f_14_290 rfl (d1) (by unfold ev_ext; omega) (by omega) ?_
        refine n_sip (m := 4096) f_14_291 rfl (by decide) ?_
        refine n_idiv f_14_294 rfl (by omega) ?_
        refine n_go f_14_295 rfl (pc' := 297) rfl ?_
        refine n_go f_14_297 rfl (pc' := 299) rfl ?_
        refine n_go f_14_299 rfl (pc' := 301) rfl ?_
        refine n_iadd f_14_301 rfl ?_
        refine n_ial f_14_302 rfl (w1) (by unfold ev_ext; omega) (by omega) ?_
        refine n_sip (m := 4096) f_14_303 rfl (by decide) ?_
        refine n_idiv f_14_306 rfl (by omega) ?_
        refine n_ic_eq f_14_307 rfl rfl ⟨by omega, by omega⟩ (fun a2 => ?_) (fun a2 => ?_)
        · refine n_go f_14_314 rfl (pc' := 315) (st' := .int (iI 0) :: _) rfl ?_
          refine n_go f_14_315 rfl (pc' := 419) rfl ?_
          exact no (by show ((lt D o i && lt W t i) && decide (¬ D (o + i) / 4096 = W (t + i) / 4096)) = false; rw [decide_eq_false (fun q => q a2), Bool.and_false]) false rfl _
        · refine n_go f_14_310 rfl (pc' := 311) (st' := .int (iI 1) :: _) rfl ?_
          refine n_go f_14_311 rfl (pc' := 419) rfl ?_
          exact yes (by show ((lt D o i && lt W t i) && decide (¬ D (o + i) / 4096 = W (t + i) / 4096)) = true; rw [← hb, a1, decide_eq_true a2]; rfl) true rfl _
    · refine n_go f_14_143 rfl (pc' := 145) (ls' := [_, _, _, _, _, _, _, _, _, _, _, _, _, _, _, _, _, _, _]) rfl ?_
      refine n_go f_14_145 rfl (pc' := 147) rfl ?_
      refine n_if_ne f_14_147 rfl rfl (by omega) (fun _ => ?_) (fun e9 => absurd (by omega) e9)
      refine n_go f_14_182 rfl (pc' := 184) rfl ?_
      refine n_go f_14_184 rfl (pc' := 185) (st' := .int (iI 1) :: _) rfl ?_
      refine n_ic_ne f_14_185 rfl rfl ⟨by omega, by omega⟩ (fun _ => ?_) (fun e9 => absurd (by omega) e9)
      refine n_go f_14_220 rfl (pc' := 222) rfl ?_
      refine n_go f_14_222 rfl (pc' := 223) (st' := .int (iI 2) :: _) rfl ?_
      refine n_ic_ne f_14_223 rfl rfl ⟨by omega, by omega⟩ (fun _ => ?_) (fun e9 => absurd (by omega) e9)
      refine n_go f_14_272 rfl (pc' := 274) rfl ?_
      refine n_go f_14_274 rfl (pc' := 275) (st' := .int (iI 3) :: _) rfl ?_
      refine n_ic_ne f_14_275 rfl rfl ⟨by omega, by omega⟩ (fun _ => ?_) (fun e9 => absurd (by omega) e9)
      refine n_go f_14_318 rfl (pc' := 320) rfl ?_
      refine n_go f_14_320 rfl (pc' := 321) (st' := .int (iI 4) :: _) rfl ?_
      refine n_ic_ne f_14_321 rfl rfl ⟨by omega, by omega⟩ (fun e9 => absurd e9 (by omega)) (fun _ => ?_)
      refine n_go f_14_324 rfl (pc' := 326) rfl ?_
      refine n_go f_14_326 rfl (pc' := 328) rfl ?_
      refine n_go f_14_328 rfl (pc' := 330) rfl ?_
      refine n_iadd f_14_330 rfl ?_
      refine n_ial f_14_331 rfl (e1) (by unfold ev_ext; omega) (by omega) ?_
      refine n_if_ne f_14_332 rfl rfl (by omega) (fun a1 => ?_) (fun a1 => ?_)
      · refine n_go f_14_350 rfl (pc' := 351) (st' := .int (iI 0) :: _) rfl ?_
        refine n_go f_14_351 rfl (pc' := 419) rfl ?_
        exact no (by show (decide (E (o + i) = 0) && decide (F (t + i) > 0)) = false; rw [decide_eq_false a1]; rfl) false rfl _
      · refine n_go f_14_335 rfl (pc' := 337) rfl ?_
        refine n_go f_14_337 rfl (pc' := 339) rfl ?_
        refine n_go f_14_339 rfl (pc' := 341) rfl ?_
        refine n_iadd f_14_341 rfl ?_
        refine n_ial f_14_342 rfl (f1) (by unfold ev_ext; omega) (by omega) ?_
        refine n_if_le f_14_343 rfl rfl (by omega) (fun a2 => ?_) (fun a2 => ?_)
        · refine n_go f_14_350 rfl (pc' := 351) (st' := .int (iI 0) :: _) rfl ?_
          refine n_go f_14_351 rfl (pc' := 419) rfl ?_
          exact no (by show (decide (E (o + i) = 0) && decide (F (t + i) > 0)) = false; rw [decide_eq_false (p := F (t + i) > 0) (by omega), Bool.and_false]) false rfl _
        · refine n_go f_14_346 rfl (pc' := 347) (st' := .int (iI 1) :: _) rfl ?_
          refine n_go f_14_347 rfl (pc' := 419) rfl ?_
          exact yes (by show (decide (E (o + i) = 0) && decide (F (t + i) > 0)) = true; rw [decide_eq_true (p := E (o + i) = 0) (by omega), decide_eq_true (p := F (t + i) > 0) (by omega)]; rfl) true rfl _
    · refine n_go f_14_143 rfl (pc' := 145) (ls' := [_, _, _, _, _, _, _, _, _, _, _, _, _, _, _, _, _, _, _]) rfl ?_
      refine n_go f_14_145 rfl (pc' := 147) rfl ?_
      refine n_if_ne f_14_147 rfl rfl (by omega) (fun _ => ?_) (fun e9 => absurd (by omega) e9)
      refine n_go f_14_182 rfl (pc' := 184) rfl ?_
      refine n_go f_14_184 rfl (pc' := 185) (st' := .int (iI 1) :: _) rfl ?_
      refine n_ic_ne f_14_185 rfl rfl ⟨by omega, by omega⟩ (fun _ => ?_) (fun e9 => absurd (by omega) e9)
      refine n_go f_14_220 rfl (pc' := 222) rfl ?_
      refine n_go f_14_222 rfl (pc' := 223) (st' := .int (iI 2) :: _) rfl ?_
      refine n_ic_ne f_14_223 rfl rfl ⟨by omega, by omega⟩ (fun _ => ?_) (fun e9 => absurd (by omega) e9)
      refine n_go f_14_272 rfl (pc' := 274) rfl ?_
      refine n_go f_14_274 rfl (pc' := 275) (st' := .int (iI 3) :: _) rfl ?_
      refine n_ic_ne f_14_275 rfl rfl ⟨by omega, by omega⟩ (fun _ => ?_) (fun e9 => absurd (by omega) e9)
      refine n_go f_14_318 rfl (pc' := 320) rfl ?_
      refine n_go f_14_320 rfl (pc' := 321) (st' := .int (iI 4) :: _) rfl ?_
      refine n_ic_ne f_14_321 rfl rfl ⟨by omega, by omega⟩ (fun _ => ?_) (fun e9 => absurd (by omega) e9)
      refine n_go f_14_354 rfl (pc' := 356) rfl ?_
      refine n_go f_14_356 rfl (pc' := 357) (st' := .int (iI 5) :: _) rfl ?_
      refine n_ic_ne f_14_357 rfl rfl ⟨by omega, by omega⟩ (fun e9 => absurd e9 (by omega)) (fun _ => ?_)
      refine n_go f_14_360 rfl (pc' := 362) rfl ?_
      refine n_go f_14_362 rfl (pc' := 364) rfl ?_
      refine n_go f_14_364 rfl (pc' := 366) rfl ?_
      refine n_iadd f_14_366 rfl ?_
      refine n_ial f_14_367 rfl (e1) (by unfold ev_ext; omega) (by omega) ?_
      refine n_if_le f_14_368 rfl rfl (by omega) (fun a1 => ?_) (fun a1 => ?_)
      · refine n_go f_14_386 rfl (pc' := 387) (st' := .int (iI 0) :: _) rfl ?_
        refine n_go f_14_387 rfl (pc' := 419) rfl ?_
        exact no (by show (decide (E (o + i) > 0) && decide (F (t + i) = 0)) = false; rw [decide_eq_false (p := E (o + i) > 0) (by omega)]; rfl) false rfl _
      · refine n_go f_14_371 rfl (pc' := 373) rfl ?_
        refine n_go f_14_373 rfl (pc' := 375) rfl ?_
        refine n_go f_14_375 rfl (pc' := 377) rfl ?_
        refine n_iadd f_14_377 rfl ?_
        refine n_ial f_14_378 rfl (f1) (by unfold ev_ext; omega) (by omega) ?_
        refine n_if_ne f_14_379 rfl rfl (by omega) (fun a2 => ?_) (fun a2 => ?_)
        · refine n_go f_14_386 rfl (pc' := 387) (st' := .int (iI 0) :: _) rfl ?_
          refine n_go f_14_387 rfl (pc' := 419) rfl ?_
          exact no (by show (decide (E (o + i) > 0) && decide (F (t + i) = 0)) = false; rw [decide_eq_false a2, Bool.and_false]) false rfl _
        · refine n_go f_14_382 rfl (pc' := 383) (st' := .int (iI 1) :: _) rfl ?_
          refine n_go f_14_383 rfl (pc' := 419) rfl ?_
          exact yes (by show (decide (E (o + i) > 0) && decide (F (t + i) = 0)) = true; rw [decide_eq_true (p := E (o + i) > 0) (by omega), decide_eq_true (p := F (t + i) = 0) (by omega)]; rfl) true rfl _
    · refine n_go f_14_143 rfl (pc' := 145) (ls' := [_, _, _, _, _, _, _, _, _, _, _, _, _, _, _, _, _, _, _]) rfl ?_
      refine n_go f_14_145 rfl (pc' := 147) rfl ?_
      refine n_if_ne f_14_147 rfl rfl (by omega) (fun _ => ?_) (fun e9 => absurd (by omega) e9)
      refine n_go f_14_182 rfl (pc' := 184) rfl ?_
      refine n_go f_14_184 rfl (pc' := 185) (st' := .int (iI 1) :: _) rfl ?_
      refine n_ic_ne f_14_185 rfl rfl ⟨by omega, by omega⟩ (fun _ => ?_) (fun e9 => absurd (by omega) e9)
      refine n_go f_14_220 rfl (pc' := 222) rfl ?_
      refine n_go f_14_222 rfl (pc' := 223) (st' := .int (iI 2) :: _) rfl ?_
      refine n_ic_ne f_14_223 rfl rfl ⟨by omega, by omega⟩ (fun _ => ?_) (fun e9 => absurd (by omega) e9)
      refine n_go f_14_272 rfl (pc' := 274) rfl ?_
      refine n_go f_14_274 rfl (pc' := 275) (st' := .int (iI 3) :: _) rfl ?_
      refine n_ic_ne f_14_275 rfl rfl ⟨by omega, by omega⟩ (fun _ => ?_) (fun e9 => absurd (by omega) e9)
      refine n_go f_14_318 rfl (pc' := 320) rfl ?_
      refine n_go f_14_320 rfl (pc' := 321) (st' := .int (iI 4) :: _) rfl ?_
      refine n_ic_ne f_14_321 rfl rfl ⟨by omega, by omega⟩ (fun _ => ?_) (fun e9 => absurd (by omega) e9)
      refine n_go f_14_354 rfl (pc' := 356) rfl ?_
      refine n_go f_14_356 rfl (pc' := 357) (st' := .int (iI 5) :: _) rfl ?_
      refine n_ic_ne f_14_357 rfl rfl ⟨by omega, by omega⟩ (fun _ => ?_) (fun e9 => absurd (by omega) e9)
      refine n_go f_14_390 rfl (pc' := 392) rfl ?_
      refine n_go f_14_392 rfl (pc' := 394) rfl ?_
      refine n_go f_14_394 rfl (pc' := 396) rfl ?_
      refine n_cs (ls' := [_, _, _]) f_14_396 (by decide) m_3 rfl rfl ?_
      refine c_lthere hD (by omega) ?_
      show En V _ 14 399 _ [_] _ _
      refine n_ib_eq f_14_399 rfl rfl (fun a1 => ?_) (fun a1 => ?_)
      · refine n_go f_14_418 rfl (pc' := 419) (st' := .int (iI 0) :: _) rfl ?_
        exact no (by show (lt D o i && !(lt W t i)) = false; rw [a1]; rfl) false rfl _
      · refine n_go f_14_402 rfl (pc' := 404) rfl ?_
        refine n_go f_14_404 rfl (pc' := 406) rfl ?_
        refine n_go f_14_406 rfl (pc' := 408) rfl ?_
        refine n_cs (ls' := [_, _, _]) f_14_408 (by decide) m_3 rfl rfl ?_
        refine c_lthere hW (by omega) ?_
        show En V _ 14 411 _ [_] _ _
        refine n_ib_ne f_14_411 rfl rfl (fun a2 => ?_) (fun a2 => ?_)
        · refine n_go f_14_418 rfl (pc' := 419) (st' := .int (iI 0) :: _) rfl ?_
          exact no (by show (lt D o i && !(lt W t i)) = false; rw [a2, Bool.not_true, Bool.and_false]) false rfl _
        · refine n_go f_14_414 rfl (pc' := 415) (st' := .int (iI 1) :: _) rfl ?_
          refine n_go f_14_415 rfl (pc' := 419) rfl ?_
          exact yes (by show (lt D o i && !(lt W t i)) = true; rw [a1, a2]; rfl) true rfl _
  refine n_go f_14_114 rfl (pc' := 116) rfl ?_
  refine n_go f_14_116 rfl (pc' := 118) rfl ?_
  refine n_go f_14_118 rfl (pc' := 120) rfl ?_
  refine n_cs (ls' := [_, _, _]) f_14_120 (by decide) m_3 rfl rfl ?_
  refine c_lthere hD (by omega) ?_
  show En V _ 14 123 _ [_] _ _
  refine n_ib_eq f_14_123 rfl rfl (fun b1 => ?_) (fun b1 => ?_)
  · refine n_go f_14_142 rfl (pc' := 143) (st' := .int (iI 0) :: _) rfl ?_
    exact main false (by rw [b1]; rfl)
  · refine n_go f_14_126 rfl (pc' := 128) rfl ?_
    refine n_go f_14_128 rfl (pc' := 130) rfl ?_
    refine n_go f_14_130 rfl (pc' := 132) rfl ?_
    refine n_cs (ls' := [_, _, _]) f_14_132 (by decide) m_3 rfl rfl ?_
    refine c_lthere hW (by omega) ?_
    show En V _ 14 135 _ [_] _ _
    refine n_ib_eq f_14_135 rfl rfl (fun b2' => ?_) (fun b2' => ?_)
    · refine n_go f_14_142 rfl (pc' := 143) (st' := .int (iI 0) :: _) rfl ?_
      exact main false (by rw [b2', Bool.and_false])
    · refine n_go f_14_138 rfl (pc' := 139) (st' := .int (iI 1) :: _) rfl ?_
      refine n_go f_14_139 rfl (pc' := 143) rfl ?_
      exact main true (by rw [b1, b2']; rfl)
end LU
