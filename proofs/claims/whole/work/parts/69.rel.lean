/-! the one relation between class and reference, over the abstract heap -/
def REL (C : Nat) (h : Hp) : Prop := match h with
  | ((xm, xb, xf), (rc, ch, F), (ls, lp, lsm, llg, _, _, _, f1, f2, f3), _, (kc, km, sn'), (sl, _, _, _, st, _, _), (pl, ps), (mu, mw, ms, _, _, mp, ml, mh, _, _, _, tl, al, _, U, q, _, pd, _, _, mt, an, _)) =>
    ∃ w c s k sm lg p t b G, RST w c s k sm lg p C G xm rc ch ls lp lsm llg pl F f1 f2 f3 ps mu mw ms mp ml mh al U pd an ∧ RQ xb xf q ∧ TXT t b sl st tl mt ∧ CV c G C ch kc km sn'
