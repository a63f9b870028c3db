/-! ===== RUNS OF THE PURE MACHINE THAT COME TO SOMETHING ===== -/
/-- more fuel does no harm -/
theorem pRun_succ (PT : Nat → PMet) : ∀ (n m i : Nat) (ls : PV) (st : List Value) (g : PS) (r : PO × PS), pRun PT n m i ls st g = some r → pRun PT (n + 1) m i ls st g = some r
  | 0, _, _, _, _, _, _, h => by cases h
  | n + 1, m, i, ls, st, g, r, h => by
    have ih := pRun_succ PT n
    unfold pRun
    unfold pRun at h
    cases hr : (PT m).1[i]? with
    | none => rw [hr] at h; cases h
    | some rr =>
      rw [hr] at h
      dsimp only at h ⊢
      split at h
      · rename_i hk
        try rw [hk]
        try dsimp only
        split at h
        · cases h
        · rename_i q hq
          try rw [hq]
          exact ih _ _ _ _ _ _ h
      · rename_i hk
        try rw [hk]
        exact h
      · rename_i hk
        try rw [hk]
        try dsimp only
        split at h
        · cases h
        · rename_i q hq
          try rw [hq]
          try dsimp only
          split at h
          · rename_i hc
            try rw [if_pos hc]
            split at h
            · cases h
            · rename_i v g1 h1
              rw [ih _ _ _ _ _ _ h1]
              exact ih _ _ _ _ _ _ h
            · rename_i e g1 h1
              rw [ih _ _ _ _ _ _ h1]
              try dsimp only
              split at h
              · rename_i h2
                try rw [if_pos h2]
                split at h
                · rename_i h3
                  try rw [h3]
                  exact h
                · rename_i h0 h3
                  try rw [h3]
                  try dsimp only
                  split at h
                  · cases h
                  · rename_i r2 h4
                    try rw [h4]
                    try dsimp only
                    split at h
                    · cases h
                    · rename_i ls2 h5
                      try rw [h5]
                      exact ih _ _ _ _ _ _ h
              · cases h
          · cases h
      · rename_i hk
        try rw [hk]
        exact h
      · rename_i hk
        try rw [hk]
        try dsimp only
        split at h
        · split at h
          · rename_i hc
            try dsimp only
            try rw [if_pos hc]
            exact ih _ _ _ _ _ _ h
          · cases h
        · cases h
      · rename_i hk
        try rw [hk]
        try dsimp only
        split at h
        · cases h
        · rename_i q hq
          try rw [hq]
          try dsimp only
          split at h
          · rename_i hc
            try rw [if_pos hc]
            exact ih _ _ _ _ _ _ h
          · cases h
      · rename_i hk
        try rw [hk]
        try dsimp only
        split at h
        · cases h
        · rename_i q hq
          try rw [hq]
          try dsimp only
          split at h
          · cases h
          · rename_i h0 hh
            try rw [hh]
            exact ih _ _ _ _ _ _ h
      · rename_i hk
        try rw [hk]
        try dsimp only
        split at h
        · split at h
          · rename_i hc
            try dsimp only
            try rw [if_pos hc]
            exact ih _ _ _ _ _ _ h
          · cases h
        · cases h
      · cases h
theorem pRun_le (PT : Nat → PMet) {n k m i : Nat} {ls : PV} {st : List Value} {g : PS} {r : PO × PS} (h : pRun PT n m i ls st g = some r) (hk : n ≤ k) : pRun PT k m i ls st g = some r := by
  obtain ⟨d, rfl⟩ := Nat.exists_eq_add_of_le hk
  induction d with
  | zero => exact h
  | succ d ih => exact pRun_succ PT _ _ _ _ _ _ _ (ih (Nat.le_add_right _ _))
/-- from here the pure machine comes to an end at which Q holds -/
def PW (m i : Nat) (ls : PV) (st : List Value) (g : PS) (Q : PO → PS → Prop) : Prop := ∃ (n : Nat) (o : PO) (g' : PS), pRun qPT n m i ls st g = some (o, g') ∧ Q o g'
section PWR
variable {m i pc ln r1 r2 r3 : Nat} {ins : Instr} {ls : PV} {st : List Value} {g : PS} {Q : PO → PS → Prop} {M : PMet}
theorem PW.plain (hM : qPT m = M) (hr : M.1[i]? = some (pc, ins, ln, r1, r2, r3)) {q : PR} (hk : pKind ins r1 = 0) (hs : pStep ins (i + 1) r1 r2 ls st g = some q) (k : PW m q.1 q.2.1 q.2.2.1 q.2.2.2 Q) : PW m i ls st g Q := by
  obtain ⟨n, o, g9, h, hq⟩ := k
  refine ⟨n + 1, o, g9, ?_, hq⟩
  unfold pRun
  rw [hM, hr]
  try dsimp only
  rw [hk]
  try dsimp only
  rw [hs]
  exact h
theorem PW.ret (hM : qPT m = M) (hr : M.1[i]? = some (pc, ins, ln, r1, r2, r3)) {v : Option Value} (hk : pKind ins r1 = 1) (hv : pRet M.2.2.2.2.1 ins st = some v) (k : Q (.inl v) g) : PW m i ls st g Q := by
  refine ⟨1, _, _, ?_, k⟩
  unfold pRun
  rw [hM, hr]
  try dsimp only
  rw [hk]
  try dsimp only
  rw [hv]
  rfl
theorem PW.thr (hM : qPT m = M) (hr : M.1[i]? = some (pc, ins, ln, r1, r2, r3)) (hk : pKind ins r1 = 3) (hs : st.length ≤ 4 ∨ (st.map fun v => v.category).sum ≤ 8) (hh : M.2.2.2.1.isEmpty = true) (k : Q (.inr (r1 - 100)) (pThr g)) : PW m i ls st g Q := by
  refine ⟨1, _, _, ?_, k⟩
  unfold pRun
  rw [hM, hr]
  try dsimp only
  rw [hk]
  try dsimp only
  rw [if_pos ⟨hs, hh⟩]
  rfl
theorem PW.obj (hM : qPT m = M) (hr : M.1[i]? = some (pc, ins, ln, r1, r2, r3)) (hk : pKind ins r1 = 4) {a : Nat} {rest : List Value} (hs : rest.length ≤ 4 ∨ (rest.map fun v => v.category).sum ≤ 8) (k : PW m (i + 1) ls rest g Q) : PW m i ls (.ref a :: rest) g Q := by
  obtain ⟨n, o, g9, h, hq⟩ := k
  refine ⟨n + 1, o, g9, ?_, hq⟩
  unfold pRun
  rw [hM, hr]
  try dsimp only
  rw [hk]
  try dsimp only
  rw [if_pos hs]
  exact h
theorem PW.mm (hM : qPT m = M) (hr : M.1[i]? = some (pc, ins, ln, r1, r2, r3)) (hk : pKind ins r1 = 7) {x y : Int32} {rest : List Value} (hs : rest.length ≤ 4 ∨ (rest.map fun v => v.category).sum ≤ 8)
    (k : PW m (i + 1) ls (.int (if r1 = 2 then (if x < y then y else x) else (if y < x then y else x)) :: rest) g Q) : PW m i ls (.int y :: .int x :: rest) g Q := by
  obtain ⟨n, o, g9, h, hq⟩ := k
  refine ⟨n + 1, o, g9, ?_, hq⟩
  unfold pRun
  rw [hM, hr]
  try dsimp only
  rw [hk]
  try dsimp only
  rw [if_pos hs]
  exact h
theorem PW.acp (hM : qPT m = M) (hr : M.1[i]? = some (pc, ins, ln, r1, r2, r3)) (hk : pKind ins r1 = 5) {q : PR} (hs : pAcp (i + 1) ls st g = some q) (hsm : q.2.2.1.length ≤ 4 ∨ (q.2.2.1.map fun v => v.category).sum ≤ 8) (k : PW m q.1 q.2.1 q.2.2.1 q.2.2.2 Q) : PW m i ls st g Q := by
  obtain ⟨n, o, g9, h, hq⟩ := k
  refine ⟨n + 1, o, g9, ?_, hq⟩
  unfold pRun
  rw [hM, hr]
  try dsimp only
  rw [hk]
  try dsimp only
  rw [hs]
  try dsimp only
  rw [if_pos hsm]
  exact h
theorem PW.sw (hM : qPT m = M) (hr : M.1[i]? = some (pc, ins, ln, r1, r2, r3)) (hk : pKind ins r1 = 6) {q : Nat × List Value} {h0 : Nat} (hs : pSw ins pc st = some q) (hi : pIdx M.1 q.1 0 = some h0) (k : PW m h0 ls q.2 g Q) : PW m i ls st g Q := by
  obtain ⟨n, o, g9, h, hq⟩ := k
  refine ⟨n + 1, o, g9, ?_, hq⟩
  unfold pRun
  rw [hM, hr]
  try dsimp only
  rw [hk]
  try dsimp only
  rw [hs]
  try dsimp only
  rw [hi]
  exact h
/-- a call: q what is popped; what it comes to decides how it goes on -/
theorem PW.call (hM : qPT m = M) (hr : M.1[i]? = some (pc, ins, ln, r1, r2, r3)) (hk : pKind ins r1 = 2) {Mc : PMet} (hMc : qPT (r1 - 10) = Mc) {av rest : List Value} (hp : pPop Mc.2.2.1 st = some (av, rest)) (hs : rest.length ≤ 4 ∨ (rest.map fun v => v.category).sum ≤ 8) (he : (pEnt av).length ≤ Mc.2.1)
    (hv : pRv ins Mc.2.2.2.2.2 av g = true) (k : PW (r1 - 10) 0 (pEntry Mc.2.1 av) [] g (fun o g1 => match o with
      | .inl v => PW m (i + 1) ls (v.toList ++ rest) g1 Q
      | .inr e => r2 = 0 ∧ ((M.2.2.2.1.isEmpty = true ∧ Q (.inr e) g1) ∨ ∃ (h : Nat) (rr : PRow) (ls2 : PV), pHand M.2.2.2.1 pc e = some h ∧ M.1[h]? = some rr ∧ pCat rr.2.1 ls = some ls2 ∧ PW m (h + 1) ls2 [] g1 Q))) : PW m i ls st g Q := by
  obtain ⟨n, o, g1, h, hq⟩ := k
  cases o with
  | inl v =>
    obtain ⟨n2, o2, g2, h2, hq2⟩ := hq
    refine ⟨n + n2 + 1, o2, g2, ?_, hq2⟩
    unfold pRun
    rw [hM, hr]
    try dsimp only
    rw [hk]
    try dsimp only
    rw [hMc, hp]
    try dsimp only
    rw [if_pos ⟨hs, he, hv⟩, pRun_le qPT h (Nat.le_add_right _ _)]
    try dsimp only
    exact pRun_le qPT h2 (Nat.le_add_left _ _)
  | inr e =>
    obtain ⟨hr2, hq⟩ := hq
    rcases hq with ⟨he0, hq⟩ | ⟨hh, rr, ls2, h1, h2, h3, hq⟩
    · refine ⟨n + 1, _, g1, ?_, hq⟩
      unfold pRun
      rw [hM, hr]
      try dsimp only
      rw [hk]
      try dsimp only
      rw [hMc, hp]
      try dsimp only
      rw [if_pos ⟨hs, he, hv⟩, h]
      try dsimp only
      rw [if_pos hr2]
      have hn : pHand M.2.2.2.1 pc e = none := by
        rw [List.isEmpty_iff.mp he0]; rfl
      rw [hn]
      try dsimp only
      rw [if_pos he0]
      rfl
    · obtain ⟨n2, o2, g2, h4, hq2⟩ := hq
      refine ⟨n + n2 + 1, o2, g2, ?_, hq2⟩
      unfold pRun
      rw [hM, hr]
      try dsimp only
      rw [hk]
      try dsimp only
      rw [hMc, hp]
      try dsimp only
      rw [if_pos ⟨hs, he, hv⟩, pRun_le qPT h (Nat.le_add_right _ _)]
      try dsimp only
      rw [if_pos hr2, h1]
      try dsimp only
      rw [h2]
      try dsimp only
      rw [h3]
      exact pRun_le qPT h4 (Nat.le_add_left _ _)
theorem PW.mono {Q' : PO → PS → Prop} (h : PW m i ls st g Q) (hQ : ∀ o g', Q o g' → Q' o g') : PW m i ls st g Q' := by
  obtain ⟨n, o, g1, h1, h2⟩ := h
  exact ⟨n, o, g1, h1, hQ _ _ h2⟩
end PWR
