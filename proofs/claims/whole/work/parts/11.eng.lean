/-! EVALUATION: statements -/
def zSq (Q : zOut → zHp → Prop) (B : zSt) : zOut → zHp → Prop
  | .inl (0, env), h => wS Q B env h (zu _)
  | o, h => Q o h
theorem zSq_0 {Q : zOut → zHp → Prop} {B : zSt} {env : zEnv} {h : zHp} : zSq Q B (.inl (0, env)) h = wS Q B env h (zu _) := propext ⟨id, id⟩
theorem zSq_r {Q : zOut → zHp → Prop} {B : zSt} {v : Option Value} {h : zHp} : zSq Q B (.inr v) h = Q (.inr v) h := propext ⟨id, id⟩
theorem zSq_1 {Q : zOut → zHp → Prop} {B : zSt} {env : zEnv} {h : zHp} : zSq Q B (.inl (1, env)) h = Q (.inl (1, env)) h := propext ⟨id, id⟩
theorem zSq_2 {Q : zOut → zHp → Prop} {B : zSt} {env : zEnv} {h : zHp} : zSq Q B (.inl (2, env)) h = Q (.inl (2, env)) h := propext ⟨id, id⟩
theorem rSeq {Q : zOut → zHp → Prop} {A B : zSt} {env : zEnv} {h : zHp} {u : zU Q} : wS Q (zSeq A B) env h u = wS (zSq Q B) A env h (zu _) := by
  refine propext ⟨fun ⟨o, h', e, q⟩ => ?_, fun ⟨o, h1, e1, q⟩ => ?_⟩
  · obtain ⟨⟨o1, h1⟩, e1, e⟩ := zBi.mp e
    refine ⟨o1, h1, e1, ?_⟩
    match o1, e with
    | .inl (0, env'), e => exact ⟨o, h', e, q⟩
    | .inl (k + 1, env'), e => cases e; exact q
    | .inr v, e => cases e; exact q
  · match o, q, e1 with
    | .inl (0, env'), q, e1 => obtain ⟨o, h', e, q⟩ := q; exact ⟨o, h', by simp only [zSeq, e1, Option.bind_some]; exact e, q⟩
    | .inl (k + 1, env'), q, e1 => exact ⟨_, h1, by simp only [zSeq, e1, Option.bind_some], q⟩
    | .inr v, q, e1 => exact ⟨_, h1, by simp only [zSeq, e1, Option.bind_some], q⟩
theorem rSkip {Q : zOut → zHp → Prop} {env : zEnv} {h : zHp} {u : zU Q} : wS Q zSkip env h u = Q (.inl (0, env)) h := propext ⟨fun ⟨_, _, e, q⟩ => by cases e; exact q, fun q => ⟨_, _, rfl, q⟩⟩
theorem rBrk {Q : zOut → zHp → Prop} {env : zEnv} {h : zHp} {u : zU Q} : wS Q zBrk env h u = Q (.inl (1, env)) h := propext ⟨fun ⟨_, _, e, q⟩ => by cases e; exact q, fun q => ⟨_, _, rfl, q⟩⟩
theorem rCnt {Q : zOut → zHp → Prop} {env : zEnv} {h : zHp} {u : zU Q} : wS Q zCnt env h u = Q (.inl (2, env)) h := propext ⟨fun ⟨_, _, e, q⟩ => by cases e; exact q, fun q => ⟨_, _, rfl, q⟩⟩
theorem rRetV {Q : zOut → zHp → Prop} {env : zEnv} {h : zHp} {u : zU Q} : wS Q zRetV env h u = Q (.inr none) h := propext ⟨fun ⟨_, _, e, q⟩ => by cases e; exact q, fun q => ⟨_, _, rfl, q⟩⟩
theorem rAsg {Q : zOut → zHp → Prop} {k : Nat} {A : zEx} {env : zEnv} {h : zHp} {u : zU Q} : wS Q (zAsg k A) env h u = wE (fun v h1 => wX (fun e => Q (.inl (0, e)) h1) (env.set k v) (zu _)) A env h (zu _) := by
  refine propext ⟨fun ⟨o, h', e, q⟩ => ?_, fun ⟨v, h1, e1, q⟩ => ?_⟩
  · obtain ⟨⟨v, h1⟩, e1, e⟩ := zBi.mp e
    cases e
    exact ⟨v, h1, e1, q⟩
  · exact ⟨_, h1, by simp only [zAsg, e1, Option.bind_some], q⟩
theorem rRet {Q : zOut → zHp → Prop} {A : zEx} {env : zEnv} {h : zHp} {u : zU Q} : wS Q (zRet A) env h u = wE (fun v h1 => Q (.inr (some v)) h1) A env h (zu _) := by
  refine propext ⟨fun ⟨o, h', e, q⟩ => ?_, fun ⟨v, h1, e1, q⟩ => ?_⟩
  · obtain ⟨⟨v, h1⟩, e1, e⟩ := zBi.mp e
    cases e
    exact ⟨v, h1, e1, q⟩
  · exact ⟨_, h1, by simp only [zRet, e1, Option.bind_some], q⟩
theorem rIf {Q : zOut → zHp → Prop} {C : zCx} {A B : zSt} {env : zEnv} {h : zHp} {u : zU Q} : wS Q (zIf C A B) env h u = wC (fun b h1 => wI (wS Q A env h1 (zu _), wS Q B env h1 (zu _)) b (zu _)) C env h (zu _) := by
  refine propext ⟨fun ⟨v, h', e, q⟩ => ?_, fun ⟨x, h1, e1, q⟩ => ?_⟩
  · obtain ⟨⟨x, h1⟩, e1, e⟩ := zBi.mp e
    refine ⟨x, h1, e1, ?_⟩
    cases x with
    | false => exact ⟨fun c => (by cases c), fun _ => ⟨v, h', e, q⟩⟩
    | true => exact ⟨fun _ => ⟨v, h', e, q⟩, fun c => (by cases c)⟩
  · cases x with
    | false => obtain ⟨v, h', e, q⟩ := q.2 rfl; exact ⟨v, h', by simp [zIf, e1, e], q⟩
    | true => obtain ⟨v, h', e, q⟩ := q.1 rfl; exact ⟨v, h', by simp [zIf, e1, e], q⟩
def zPfv (ty ci k : Nat) (h : zHp) (p v : Value) : Option zHp := (zRef p).bind fun a => zPut h a ci k ty v
theorem rPf {Q : zOut → zHp → Prop} {ty ci k : Nat} {A B : zEx} {env : zEnv} {h : zHp} {u : zU Q} : wS Q (zPf ty ci k A B) env h u = wE (fun p h1 => wE (fun v h2 => wO (fun h3 => Q (.inl (0, env)) h3) (zPfv ty ci k h2 p v) (zu _)) B env h1 (zu _)) A env h (zu _) := by
  refine propext ⟨fun ⟨v, h', e, q⟩ => ?_, fun ⟨x, h1, e1, y, h2, e2, z, e3, q⟩ => ?_⟩
  · obtain ⟨⟨x, h1⟩, e1, e⟩ := zBi.mp e
    obtain ⟨⟨y, h2⟩, e2, e⟩ := zBi.mp e
    obtain ⟨a, e3, e⟩ := zBi.mp e
    obtain ⟨h3, e4, e⟩ := zBi.mp e
    cases e
    exact ⟨x, h1, e1, y, h2, e2, _, zBi.mpr ⟨a, e3, e4⟩, q⟩
  · obtain ⟨a, e3, e⟩ := zBi.mp e3
    refine ⟨_, z, ?_, q⟩
    try simp only at e3 e
    simp only [zPf, e1, e2, e3, e, Option.bind_some]
theorem rPfo {Q : zOut → zHp → Prop} {ty ci k : Nat} {f : Value → Value → Option Value} {A B : zEx} {env : zEnv} {h : zHp} {u : zU Q} : wS Q (zPfo ty ci k f A B) env h u = wE (fun p h1 => wO (fun v => wE (fun w h2 => wO (fun z => wO (fun h3 => Q (.inl (0, env)) h3) (zPfv ty ci k h2 p z) (zu _)) (f v w) (zu _)) B env h1 (zu _)) (zGfv ty ci k h1 p) (zu _)) A env h (zu _) := by
  refine propext ⟨fun ⟨v, h', e, q⟩ => ?_, fun ⟨x, h1, e1, w, e2, y, h2, e3, z, e4, h3, e5, q⟩ => ?_⟩
  · obtain ⟨⟨x, h1⟩, e1, e⟩ := zBi.mp e
    obtain ⟨a, e2, e⟩ := zBi.mp e
    obtain ⟨w, e3, e⟩ := zBi.mp e
    split at e
    next c =>
      obtain ⟨⟨y, h2⟩, e4, e⟩ := zBi.mp e
      obtain ⟨z, e5, e⟩ := zBi.mp e
      obtain ⟨h3, e6, e⟩ := zBi.mp e
      cases e
      exact ⟨x, h1, e1, w, zBi.mpr ⟨a, e2, zBi.mpr ⟨w, e3, by unfold zTv; rw [if_pos c]⟩⟩, y, h2, e4, z, e5, _, zBi.mpr ⟨a, e2, e6⟩, q⟩
    next => cases e
  · obtain ⟨a, e6, e⟩ := zBi.mp e2
    obtain ⟨w', e7, e⟩ := zBi.mp e
    unfold zTv at e
    split at e
    next c =>
      cases e
      obtain ⟨a', e8, e9⟩ := zBi.mp e5
      try simp only at e6 e7 e8 e9
      cases e6.symm.trans e8
      exact ⟨_, h3, by simp only [zPfo, e1, e3, e4, e6, e7, e9, Option.bind_some, c, if_true], q⟩
    next => cases e
def zStv (ty t : Nat) (c : Option Nat) (h : zHp) (p i v : Value) : Option zHp := (zRef p).bind fun a => (zInt i).bind fun x => zStr h a t c ty x v
theorem rAs {Q : zOut → zHp → Prop} {ty t : Nat} {c : Option Nat} {A I B : zEx} {env : zEnv} {h : zHp} {u : zU Q} : wS Q (zAs ty t c A I B) env h u = wE (fun p h1 => wE (fun i h2 => wE (fun v h3 => wO (fun h4 => Q (.inl (0, env)) h4) (zStv ty t c h3 p i v) (zu _)) B env h2 (zu _)) I env h1 (zu _)) A env h (zu _) := by
  refine propext ⟨fun ⟨v, h', e, q⟩ => ?_, fun ⟨x, h1, e1, y, h2, e2, z, h3, e3, h4, e4, q⟩ => ?_⟩
  · obtain ⟨⟨x, h1⟩, e1, e⟩ := zBi.mp e
    obtain ⟨⟨y, h2⟩, e2, e⟩ := zBi.mp e
    obtain ⟨⟨z, h3⟩, e3, e⟩ := zBi.mp e
    obtain ⟨a, e4, e⟩ := zBi.mp e
    obtain ⟨i, e5, e⟩ := zBi.mp e
    obtain ⟨h4, e6, e⟩ := zBi.mp e
    cases e
    exact ⟨x, h1, e1, y, h2, e2, z, h3, e3, _, zBi.mpr ⟨a, e4, zBi.mpr ⟨i, e5, e6⟩⟩, q⟩
  · obtain ⟨a, e5, e⟩ := zBi.mp e4
    obtain ⟨i, e6, e⟩ := zBi.mp e
    try simp only at e5 e6 e
    exact ⟨_, h4, by simp only [zAs, e1, e2, e3, e5, e6, e, Option.bind_some], q⟩
theorem rAso {Q : zOut → zHp → Prop} {ty t : Nat} {f : Value → Value → Option Value} {A I B : zEx} {env : zEnv} {h : zHp} {u : zU Q} : wS Q (zAso ty t f A I B) env h u = wE (fun p h1 => wE (fun i h2 => wO (fun v => wE (fun w h3 => wO (fun z => wO (fun h4 => Q (.inl (0, env)) h4) (zStv ty t none h3 p i z) (zu _)) (f v w) (zu _)) B env h2 (zu _)) (zAxv ty t h2 p i) (zu _)) I env h1 (zu _)) A env h (zu _) := by
  refine propext ⟨fun ⟨v, h', e, q⟩ => ?_, fun ⟨x, h1, e1, y, h2, e2, v, e3, w, h3, e4, z, e5, h4, e6, q⟩ => ?_⟩
  · obtain ⟨⟨x, h1⟩, e1, e⟩ := zBi.mp e
    obtain ⟨⟨y, h2⟩, e2, e⟩ := zBi.mp e
    obtain ⟨a, e3, e⟩ := zBi.mp e
    obtain ⟨i, e4, e⟩ := zBi.mp e
    obtain ⟨vs, e5, e⟩ := zBi.mp e
    obtain ⟨v0, e6, e⟩ := zBi.mp e
    split at e
    next c =>
      obtain ⟨⟨w, h3⟩, e7, e⟩ := zBi.mp e
      obtain ⟨z, e8, e⟩ := zBi.mp e
      obtain ⟨h4, e9, e⟩ := zBi.mp e
      cases e
      exact ⟨x, h1, e1, y, h2, e2, v0, zBi.mpr ⟨a, e3, zBi.mpr ⟨i, e4, zBi.mpr ⟨vs, e5, zBi.mpr ⟨v0, e6, by unfold zTv; rw [if_pos c]⟩⟩⟩⟩, w, h3, e7, z, e8, _, zBi.mpr ⟨a, e3, zBi.mpr ⟨i, e4, e9⟩⟩, q⟩
    next => cases e
  · obtain ⟨a, f3, e⟩ := zBi.mp e3
    obtain ⟨i, f4, e⟩ := zBi.mp e
    obtain ⟨vs, f5, e⟩ := zBi.mp e
    obtain ⟨v0, f6, e⟩ := zBi.mp e
    unfold zTv at e
    split at e
    next c =>
      cases e
      obtain ⟨a', g3, e⟩ := zBi.mp e6
      obtain ⟨i', g4, e⟩ := zBi.mp e
      try simp only at f3 f4 f5 f6 g3 g4 e
      cases f3.symm.trans g3
      cases f4.symm.trans g4
      exact ⟨_, h4, by simp only [zAso, e1, e2, e4, e5, f3, f4, f5, f6, e, Option.bind_some, c, if_true], q⟩
    next => cases e
theorem rDo {Q : zOut → zHp → Prop} {G : zEnv → zHp → Option (Option Value × zHp)} {env : zEnv} {h : zHp} {u : zU Q} : wS Q (zDo G) env h u = wK (fun _ h1 => Q (.inl (0, env)) h1) G env h (zu _) := by
  refine propext ⟨fun ⟨o, h', e, q⟩ => ?_, fun ⟨v, h1, e1, q⟩ => ?_⟩
  · obtain ⟨⟨v, h1⟩, e1, e⟩ := zBi.mp e
    cases e
    exact ⟨v, h1, e1, q⟩
  · exact ⟨_, h1, by simp only [zDo, e1, Option.bind_some], q⟩
/-- Object's constructor -/
theorem rObj {Q : zOut → zHp → Prop} {a : Nat} {env : zEnv} {h : zHp} {u : zU Q} : wS Q zObj (.ref a :: env) h u = Q (.inl (0, .ref a :: env)) h := propext ⟨fun ⟨_, _, e, q⟩ => by cases e; exact q, fun q => ⟨_, _, rfl, q⟩⟩
def zBq (Q : zOut → zHp → Prop) (lo : Nat) : zOut → zHp → Prop
  | .inl (k, env), h => wX (fun e => Q (.inl (k, e)) h) (zCl lo env) (zu _)
  | o, h => Q o h
theorem zBq_l {Q : zOut → zHp → Prop} {lo k : Nat} {env : zEnv} {h : zHp} : zBq Q lo (.inl (k, env)) h = wX (fun e => Q (.inl (k, e)) h) (zCl lo env) (zu _) := propext ⟨id, id⟩
theorem zBq_r {Q : zOut → zHp → Prop} {lo : Nat} {v : Option Value} {h : zHp} : zBq Q lo (.inr v) h = Q (.inr v) h := propext ⟨id, id⟩
theorem rBl {Q : zOut → zHp → Prop} {lo : Nat} {A : zSt} {env : zEnv} {h : zHp} {u : zU Q} : wS Q (zBl lo A) env h u = wS (zBq Q lo) A env h (zu _) := by
  refine propext ⟨fun ⟨o, h', e, q⟩ => ?_, fun ⟨o, h1, e1, q⟩ => ?_⟩
  · obtain ⟨⟨o1, h1⟩, e1, e⟩ := zBi.mp e
    refine ⟨o1, h1, e1, ?_⟩
    match o1, e with
    | .inl (k, env'), e => cases e; exact q
    | .inr v, e => cases e; exact q
  · match o, q, e1 with
    | .inl (k, env'), q, e1 => exact ⟨_, h1, by simp only [zBl, e1, Option.bind_some], q⟩
    | .inr v, q, e1 => exact ⟨_, h1, by simp only [zBl, e1, Option.bind_some], q⟩
theorem zCl_n {lo : Nat} : zCl lo [] = [] := by simp [zCl]
theorem zCl_0 {v : Value} {e : zEnv} : zCl 0 (v :: e) = .null :: zCl 0 e := by simp [zCl, List.replicate_succ]
theorem zCl_s {lo : Nat} {v : Value} {e : zEnv} : zCl (lo + 1) (v :: e) = v :: zCl lo e := by simp [zCl]
def zWq (Q : zOut → zHp → Prop) : zOut → zHp → Prop
  | .inl (1, env), h => Q (.inl (0, env)) h
  | o, h => Q o h
theorem zWq_0 {Q : zOut → zHp → Prop} {env : zEnv} {h : zHp} : zWq Q (.inl (0, env)) h = Q (.inl (0, env)) h := propext ⟨id, id⟩
theorem zWq_1 {Q : zOut → zHp → Prop} {env : zEnv} {h : zHp} : zWq Q (.inl (1, env)) h = Q (.inl (0, env)) h := propext ⟨id, id⟩
theorem zWq_2 {Q : zOut → zHp → Prop} {env : zEnv} {h : zHp} : zWq Q (.inl (2, env)) h = Q (.inl (2, env)) h := propext ⟨id, id⟩
theorem zWq_r {Q : zOut → zHp → Prop} {v : Option Value} {h : zHp} : zWq Q (.inr v) h = Q (.inr v) h := propext ⟨id, id⟩
def zSwv (f : Int32 → Nat) (p : Value) : Option Nat := (zInt p).bind fun x => some (f x)
theorem rSw {Q : zOut → zHp → Prop} {A : zEx} {f : Int32 → Nat} {Bs : List zSt} {env : zEnv} {h : zHp} {u : zU Q} : wS Q (zSw A f Bs) env h u = wE (fun p h1 => wO (fun k => wX (fun B => wS (zWq Q) B env h1 (zu _)) (Bs.getD k zSkip) (zu _)) (zSwv f p) (zu _)) A env h (zu _) := by
  refine propext ⟨fun ⟨o, h', e, q⟩ => ?_, fun ⟨p, h1, e1, k, e2, o, h2, e3, q⟩ => ?_⟩
  · obtain ⟨⟨p, h1⟩, e1, e⟩ := zBi.mp e
    obtain ⟨x, e2, e⟩ := zBi.mp e
    obtain ⟨⟨o1, h2⟩, e3, e⟩ := zBi.mp e
    refine ⟨p, h1, e1, _, zBi.mpr ⟨x, e2, rfl⟩, o1, h2, e3, ?_⟩
    match o1, e with
    | .inl (0, env'), e => cases e; exact q
    | .inl (1, env'), e => cases e; exact q
    | .inl (k + 2, env'), e => cases e; exact q
    | .inr v, e => cases e; exact q
  · obtain ⟨x, e4, e⟩ := zBi.mp e2
    cases e
    try simp only at e4
    match o, q, e3 with
    | .inl (0, env'), q, e3 => exact ⟨_, h2, by simp only [zSw, e1, e4, e3, Option.bind_some], q⟩
    | .inl (1, env'), q, e3 => exact ⟨_, h2, by simp only [zSw, e1, e4, e3, Option.bind_some], q⟩
    | .inl (k + 2, env'), q, e3 => exact ⟨_, h2, by simp only [zSw, e1, e4, e3, Option.bind_some], q⟩
    | .inr v, q, e3 => exact ⟨_, h2, by simp only [zSw, e1, e4, e3, Option.bind_some], q⟩
def zCpv (t : Nat) (c : Option Nat) (h : zHp) : List Value → Option zHp
  | [.ref a, .int sp, .ref b, .int dp, .int n] => (zArr h a t).bind fun xs => (zArr h b t).bind fun ys => if ¬ sp < 0 ∧ ¬ dp < 0 ∧ ¬ n < 0 ∧ sp.toNatClampNeg + n.toNatClampNeg ≤ xs.length ∧ dp.toNatClampNeg + n.toNatClampNeg ≤ ys.length ∧ (xs.all fun v => zTy 3 v && zEm h c v) = true then some (zSet h b (t, zCpL xs ys sp.toNatClampNeg dp.toNatClampNeg n.toNatClampNeg)) else none
  | _ => none
theorem rCopy {Q : zOut → zHp → Prop} {t : Nat} {c : Option Nat} {A SP B DP N : zEx} {env : zEnv} {h : zHp} {u : zU Q} : wS Q (zCopy t c A SP B DP N) env h u = wA (fun vs h1 => wO (fun h2 => Q (.inl (0, env)) h2) (zCpv t c h1 vs) (zu _)) [A, SP, B, DP, N] env h (zu _) := by
  refine propext ⟨fun ⟨o, h', e, q⟩ => ?_, fun ⟨vs, h1, e1, h2, e2, q⟩ => ?_⟩
  · obtain ⟨⟨vs, h1⟩, e1, e⟩ := zBi.mp e
    refine ⟨vs, h1, e1, ?_⟩
    split at e
    next e0 =>
      try simp only at e0
      subst e0
      obtain ⟨xs, e2, e⟩ := zBi.mp e
      obtain ⟨ys, e3, e⟩ := zBi.mp e
      split at e
      next c =>
        cases e
        exact ⟨_, zBi.mpr ⟨xs, e2, zBi.mpr ⟨ys, e3, if_pos c⟩⟩, q⟩
      next => cases e
    next => cases e
  · refine ⟨.inl (0, env), h2, ?_, q⟩
    unfold zCpv at e2
    split at e2
    next =>
      obtain ⟨xs, e3, e⟩ := zBi.mp e2
      obtain ⟨ys, e4, e⟩ := zBi.mp e
      split at e
      next c =>
        cases e
        try simp only at e3 e4
        simp only [zCopy, e1, Option.bind_some, e3, e4]
        rw [if_pos c]
      next => cases e
    next => cases e2
/-- loops: k is what is left of the turns -/
theorem rTr {Q : Bool → zHp → Prop} {env : zEnv} {h : zHp} {u : zU Q} : wC Q zTrue env h u = Q true h := propext ⟨fun ⟨_, _, e, q⟩ => by cases e; exact q, fun q => ⟨_, _, rfl, q⟩⟩
def zLt (I : zEnv → zHp → Prop) : zOut → zHp → Prop
  | .inl (0, env), h => I env h
  | _, _ => False
theorem zLt_0 {I : zEnv → zHp → Prop} {env : zEnv} {h : zHp} : zLt I (.inl (0, env)) h = I env h := propext ⟨id, id⟩
def zLo (Q : zOut → zHp → Prop) (T : zSt) (I : zEnv → zHp → Prop) : zOut → zHp → Prop
  | .inr v, h => Q (.inr v) h
  | .inl (1, env), h => Q (.inl (0, env)) h
  | .inl (_, env), h => wS (zLt I) T env h (zu _)
theorem zLo_0 {Q : zOut → zHp → Prop} {T : zSt} {I : zEnv → zHp → Prop} {env : zEnv} {h : zHp} : zLo Q T I (.inl (0, env)) h = wS (zLt I) T env h (zu _) := propext ⟨id, id⟩
theorem zLo_1 {Q : zOut → zHp → Prop} {T : zSt} {I : zEnv → zHp → Prop} {env : zEnv} {h : zHp} : zLo Q T I (.inl (1, env)) h = Q (.inl (0, env)) h := propext ⟨id, id⟩
theorem zLo_2 {Q : zOut → zHp → Prop} {T : zSt} {I : zEnv → zHp → Prop} {env : zEnv} {h : zHp} : zLo Q T I (.inl (2, env)) h = wS (zLt I) T env h (zu _) := propext ⟨id, id⟩
theorem zLo_r {Q : zOut → zHp → Prop} {T : zSt} {I : zEnv → zHp → Prop} {v : Option Value} {h : zHp} : zLo Q T I (.inr v) h = Q (.inr v) h := propext ⟨id, id⟩
theorem zLo_m {Q : zOut → zHp → Prop} {T : zSt} {I J : zEnv → zHp → Prop} (hm : ∀ env h, I env h → J env h) : ∀ {o : zOut} {h : zHp}, zLo Q T I o h → zLo Q T J o h := by
  have key : ∀ {env : zEnv} {h : zHp}, wS (zLt I) T env h (zu _) → wS (zLt J) T env h (zu _) := by
    intro env h ⟨o, h', e, q⟩
    refine ⟨o, h', e, ?_⟩
    match o, q with
    | .inl (0, env'), q => exact hm _ _ q
    | .inl (k + 1, env'), q => exact q.elim
    | .inr v, q => exact q.elim
  intro o h q
  match o, q with
  | .inr v, q => exact q
  | .inl (1, env'), q => exact q
  | .inl (0, env'), q => exact key q
  | .inl (k + 2, env'), q => exact key q
theorem wLpN {Q : zOut → zHp → Prop} {C : zCx} {B T : zSt} {I : Nat → zEnv → zHp → Prop}
    (step0 : ∀ env h, I 0 env h → wC (fun b h1 => b = false ∧ Q (.inl (0, env)) h1) C env h (zu _))
    (step : ∀ k env h, I (k + 1) env h → wC (fun b h1 => wI (wS (zLo Q T (I k)) B env h1 (zu _), Q (.inl (0, env)) h1) b (zu _)) C env h (zu _)) :
    ∀ (n k : Nat) (env : zEnv) (h : zHp), k < n → I k env h → wS Q (zLpN C B T n) env h (zu _)
  | 0, _, _, _, hk, _ => absurd hk (Nat.not_lt_zero _)
  | n + 1, 0, env, h, hk, hI => by
    obtain ⟨b, h1, e1, rfl, q⟩ := step0 env h hI
    exact ⟨_, h1, by simp [zLpN, e1], q⟩
  | n + 1, k + 1, env, h, hk, hI => by
    obtain ⟨b, h1, e1, q⟩ := step k env h hI
    cases b with
    | true =>
      obtain ⟨o, h2, e2, q⟩ := q.1 rfl
      match o, q, e2 with
      | .inr v, q, e2 => exact ⟨_, h2, by simp only [zLpN, e1, e2, Option.bind_some, if_true], q⟩
      | .inl (1, env'), q, e2 => exact ⟨_, h2, by simp only [zLpN, e1, e2, Option.bind_some, if_true], q⟩
      | .inl (0, env'), q, e2 =>
        obtain ⟨o3, h3, e3, q⟩ := q
        match o3, q, e3 with
        | .inl (0, env2), hI', e3 =>
          obtain ⟨o4, h4, e4, q⟩ := wLpN step0 step n k env2 h3 (by omega) hI'
          exact ⟨o4, h4, by simp only [zLpN, e1, e2, e3, Option.bind_some, if_true]; exact e4, q⟩
        | .inl (j + 1, env2), hI', e3 => exact hI'.elim
        | .inr v, hI', e3 => exact hI'.elim
      | .inl (j + 2, env'), q, e2 =>
        obtain ⟨o3, h3, e3, q⟩ := q
        match o3, q, e3 with
        | .inl (0, env2), hI', e3 =>
          obtain ⟨o4, h4, e4, q⟩ := wLpN step0 step n k env2 h3 (by omega) hI'
          exact ⟨o4, h4, by simp only [zLpN, e1, e2, e3, Option.bind_some, if_true]; exact e4, q⟩
        | .inl (j + 1, env2), hI', e3 => exact hI'.elim
        | .inr v, hI', e3 => exact hI'.elim
    | false => exact ⟨_, h1, by simp [zLpN, e1], q.2 rfl⟩
theorem wLp {Q : zOut → zHp → Prop} {C : zCx} {B T : zSt} {env : zEnv} {h : zHp} {u : zU Q} (I : Nat → zEnv → zHp → Prop) (k : Nat) (hk : k < 1000000) (h0 : I k env h)
    (step0 : ∀ env h, I 0 env h → wC (fun b h1 => b = false ∧ Q (.inl (0, env)) h1) C env h (zu _))
    (step : ∀ k env h, I (k + 1) env h → wC (fun b h1 => wI (wS (zLo Q T (I k)) B env h1 (zu _), Q (.inl (0, env)) h1) b (zu _)) C env h (zu _)) : wS Q (zLp C B T) env h u :=
  wLpN step0 step 1000000 k env h hk h0
/-- a counted loop: i from lo to hi; what the locals and the heap are at i -/
theorem wFor {Q : zOut → zHp → Prop} {C : zCx} {B T : zSt} {env : zEnv} {h : zHp} {u : zU Q} (E : Int → zEnv) (H : Int → zHp) (lo hi : Int) (hlo : lo ≤ hi) (hk : hi - lo < 1000000) (he : env = E lo) (hh : h = H lo)
    (step : ∀ i, lo ≤ i → i < hi → wC (fun b h1 => b = true ∧ wS (zLo Q T (fun env' h' => env' = E (i + 1) ∧ h' = H (i + 1))) B (E i) h1 (zu _)) C (E i) (H i) (zu _))
    (done : wC (fun b h1 => b = false ∧ Q (.inl (0, E hi)) h1) C (E hi) (H hi) (zu _)) : wS Q (zLp C B T) env h u := by
  refine wLp (fun k env h => ∃ i : Int, lo ≤ i ∧ i + k = hi ∧ env = E i ∧ h = H i) (hi - lo).toNat (by omega) ⟨lo, Int.le_refl _, by omega, he, hh⟩ ?_ ?_
  · intro env h ⟨i, h1, h2, h3, h4⟩
    subst h3
    subst h4
    have : i = hi := by omega
    subst this
    exact done
  · intro k env h ⟨i, h1, h2, h3, h4⟩
    subst h3
    subst h4
    obtain ⟨b, g, e, rfl, o, g2, e2, q⟩ := step i h1 (by omega)
    refine ⟨true, g, e, fun _ => ⟨o, g2, e2, ?_⟩, fun q => by cases q⟩
    exact zLo_m (fun env h q => ⟨i + 1, by omega, by omega, q.1, q.2⟩) q
/-- the same, where it may end ahead of its time -/
theorem wForI {Q : zOut → zHp → Prop} {C : zCx} {B T : zSt} {env : zEnv} {h : zHp} {u : zU Q} (I : Int → zEnv → zHp → Prop) (lo hi : Int) (hlo : lo ≤ hi) (hk : hi - lo < 1000000) (h0 : I lo env h)
    (step : ∀ i env h, lo ≤ i → i < hi → I i env h → wC (fun b h1 => wI (wS (zLo Q T (I (i + 1))) B env h1 (zu _), Q (.inl (0, env)) h1) b (zu _)) C env h (zu _))
    (done : ∀ env h, I hi env h → wC (fun b h1 => b = false ∧ Q (.inl (0, env)) h1) C env h (zu _)) : wS Q (zLp C B T) env h u := by
  refine wLp (fun k env h => ∃ i : Int, lo ≤ i ∧ i + k = hi ∧ I i env h) (hi - lo).toNat (by omega) ⟨lo, Int.le_refl _, by omega, h0⟩ ?_ ?_
  · intro env h ⟨i, h1, h2, h3⟩
    have : i = hi := by omega
    subst this
    exact done env h h3
  · intro k env h ⟨i, h1, h2, h3⟩
    obtain ⟨b, g, e, q⟩ := step i env h h1 (by omega) h3
    refine ⟨b, g, e, fun hb => ?_, q.2⟩
    obtain ⟨o, g2, e2, q⟩ := q.1 hb
    exact ⟨o, g2, e2, zLo_m (fun env h q => ⟨i + 1, by omega, by omega, q⟩) q⟩
/-- methods -/
def zFin (rt : Nat) (h : zHp) (Q : Option Value → zHp → Prop) : zOut → zHp → Prop
  | .inr (some v), h1 => (h.2.1 ≤ h1.2.1 ∧ h.2.2 ≤ h1.2.2) ∧ zTy rt v = true ∧ Q (some v) h1
  | .inr none, h1 => (h.2.1 ≤ h1.2.1 ∧ h.2.2 ≤ h1.2.2) ∧ rt = 9 ∧ Q none h1
  | .inl _, _ => False
theorem zFin_s {rt : Nat} {h : zHp} {Q : Option Value → zHp → Prop} {v : Value} {h1 : zHp} : zFin rt h Q (.inr (some v)) h1 = ((h.2.1 ≤ h1.2.1 ∧ h.2.2 ≤ h1.2.2) ∧ zTy rt v = true ∧ Q (some v) h1) := propext ⟨id, id⟩
theorem zFin_n {rt : Nat} {h : zHp} {Q : Option Value → zHp → Prop} {h1 : zHp} : zFin rt h Q (.inr none) h1 = ((h.2.1 ≤ h1.2.1 ∧ h.2.2 ≤ h1.2.2) ∧ rt = 9 ∧ Q none h1) := propext ⟨id, id⟩
theorem zMe {ts : List Nat} {nL rt : Nat} {S : zSt} {av : List Value} {h : zHp} {Q : Option Value → zHp → Prop} (ha : zArgs ts av = true) (k : wX (fun env => wS (zFin rt h Q) S env h (zu _)) (zLay ts av ++ List.replicate (nL - zWds ts) .null) (zu _)) : ∃ r h', zMeth ts nL rt S av h = some (r, h') ∧ Q r h' := by
  obtain ⟨o, h1, e1, q⟩ := k
  match o, q, e1 with
  | .inr (some v), q, e1 =>
    obtain ⟨hl, ht, q⟩ := q
    exact ⟨_, _, by simp only [zMeth, ha, if_true, e1, Option.bind_some]; rw [if_pos hl, if_pos ht], q⟩
  | .inr none, q, e1 =>
    obtain ⟨hl, ht, q⟩ := q
    exact ⟨_, _, by simp only [zMeth, ha, if_true, e1, Option.bind_some]; rw [if_pos hl, if_pos ht], q⟩
  | .inl _, q, _ => exact q.elim
/-- the same, where the end is known -/
theorem zMeq {ts : List Nat} {nL rt : Nat} {S : zSt} {av : List Value} {h : zHp} {r : Option Value} {h' : zHp} (ha : zArgs ts av = true) (k : wX (fun env => wS (zFin rt h (fun r1 h1 => r1 = r ∧ h1 = h')) S env h (zu _)) (zLay ts av ++ List.replicate (nL - zWds ts) .null) (zu _)) : zMeth ts nL rt S av h = some (r, h') := by
  obtain ⟨r1, h1, e, rfl, rfl⟩ := zMe ha k
  exact e
