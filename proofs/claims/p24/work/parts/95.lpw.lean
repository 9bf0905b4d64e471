section LPw
theorem ptx_w {a r c : Nat} : ptx a r c = chs "party" ++ (nmt [a, r, c] ++ [59]) := by
  unfold ptx nmt
  simp
theorem wtx_w {a r : Nat} : wtx a r = chs "wait" ++ (nmt [a, r] ++ [59]) := by
  unfold wtx nmt
  simp
theorem atx_w {a : Nat} : atx a = chs "patience" ++ (nmt [a] ++ [59]) := by
  unfold atx nmt
  simp
theorem rtx_w {tx : List Nat} : rtx tx = chs "ring " ++ (tx ++ chs " ;") := by
  unfold rtx
  rw [show chs "ring " = chs "ring" ++ [32] by decide +kernel, show chs " ;" = [32, 59] by decide +kernel]
  simp
theorem ptxs_c {ps : List (Nat × Nat × Nat)} {x : Nat × Nat × Nat} : ptxs (ps ++ [x]) = ptxs ps ++ ptx x.1 x.2.1 x.2.2 := by
  unfold ptxs
  simp
theorem asc_ap2 {s t : List Nat} (h : Asc s) (h2 : Asc t) : Asc (s ++ t) := fun c hc => (List.mem_append.mp hc).elim (h c) (h2 c)
theorem asc_dec {n : Nat} (hn : n ≤ 9999) : Asc (dec n) := fun c hc => by have := dec_dig hn c hc; omega
theorem asc_nmt : ∀ {ns : List Nat}, (∀ c ∈ ns, c ≤ 9999) → Asc (nmt ns)
  | [], _ => fun c hc => nomatch hc
  | n :: ns, h => by
    have e : nmt (n :: ns) = [32] ++ (dec n ++ nmt ns) := by
      unfold nmt
      simp
    rw [e]
    refine asc_ap2 (fun c hc => ?_) (asc_ap2 (asc_dec (h n (List.mem_cons_self ..))) (asc_nmt (fun c hc => h c (List.mem_cons_of_mem _ hc))))
    rw [List.mem_singleton.mp hc]
    decide
/-- a written text, loaded: what the class makes of it -/
theorem prs_wr {T : ZD} {ps : List (Nat × Nat × Nat)} {wv : Option (Nat × Nat)} {pa : Option Nat} {rg : Option (List Int32 × List Nat)} {d ow : Nat} (h : ∀ i, i < (ltx ps wv pa rg).length → T i &&& 255 = nI ((ltx ps wv pa rg).getD i 0)) (hl : (ltx ps wv pa rg).length ≤ 500) (hps : PsOK ps) (hn : ps.length ≤ 10) (hwv : ∀ x, wv = some x → (1 ≤ x.1 ∧ x.1 ≤ 99) ∧ 1 ≤ x.2 ∧ x.2 ≤ 99) (hpa : ∀ x, pa = some x → 1 ≤ x ∧ x ≤ 99) (hd : d ≤ 5) (hrg : ∀ x, rg = some x → PTx d x.1 x.2 ow) : prs (BB T (ltx ps wv pa rg).length) = .inr ((ltx ps wv pa rg).length, lgd ps wv pa rg, (wv.isSome, pa.isSome, rg.isSome), rcs rg) :=
  prs_law (tx_bb _ 0 (Nat.zero_add _).symm (fun i hi => by rw [Nat.zero_add]; exact h i hi)) (if_neg (Nat.lt_irrefl _)) hl hps hn hwv hpa hd hrg
/-- what the loaded data are -/
theorem fold_4 : ∀ (ps : List (Nat × Nat × Nat)) (G : ZD) (k : Nat), G 4 = nI k → ps.foldl addL G 4 = nI (k + ps.length)
  | [], G, k, h => h
  | x :: ps, G, k, h => by
    have := fold_4 ps (addL G x) (k + 1) (addL_4 h)
    show ps.foldl addL (addL G x) 4 = nI (k + (ps.length + 1))
    rw [this]
    congr 1
    omega
theorem lgd_4 {ps : List (Nat × Nat × Nat)} {wv : Option (Nat × Nat)} {pa : Option Nat} {rg : Option (List Int32 × List Nat)} : lgd ps wv pa rg 4 = nI ps.length := by
  have h : ps.foldl addL usual 4 = nI ps.length := by
    have := fold_4 ps usual 0 (by decide)
    rwa [Nat.zero_add] at this
  unfold lgd
  have e1 : wzz (ps.foldl addL usual) wv 4 = nI ps.length := by
    cases wv with
    | none => exact h
    | some x => exact h
  have e2 : azz (wzz (ps.foldl addL usual) wv) pa 4 = nI ps.length := by
    cases pa with
    | none => exact e1
    | some x => exact e1
  cases rg with
  | none => exact e2
  | some x => exact e2
end LPw
