theorem ag_path {r1 r2 x1 x2 x3 : Int32} (a : r1 = sp_path x1 x2 x3) (b : pc_X12_path r2 x1 x2 x3) : r1 = r2 := by
  simp only [pc_X12_path, sp_path] at a b
  grind
theorem ag_walk {r1 r2 x1 x2 : Int32} (a : r1 = sp_walk x1 x2) (b : r2 = sp_walk x1 x2) : r1 = r2 := a.trans b.symm
theorem ag_constable {r1 r2 x1 x2 x3 : Int32} (a : r1 = sp_man x1 x2 x3) (b : pc_X12_constable r2 x1 x2 x3) : r1 = r2 := by
  simp only [pc_X12_constable, sp_man] at a b
  grind
theorem ag_feed {r1 r2 x1 x2 x3 x4 x5 : Int32} (a : r1 = sp_feed x1 x2 x3 x4 x5) (b : r2 = sp_feed x1 x2 x3 x4 x5) : r1 = r2 := a.trans b.symm
theorem ag_end {r1 r2 x1 : Int32} (a : pc_X11_end r1 x1) (b : pc_X12_end r2 x1) : r1 = r2 := by
  simp only [pc_X11_end, pc_X12_end] at a b
  grind
theorem ag_fault {r1 r2 x1 : Int32} (a : pc_X11_fault r1 x1) (b : pc_X12_fault r2 x1) : r1 = r2 := by
  simp only [pc_X11_fault, pc_X12_fault] at a b
  grind
theorem ag_beat {r1 r2 : Int32} (a : pc_X11_beat r1) (b : pc_X12_beat r2) : r1 = r2 := by
  simp only [pc_X11_beat, pc_X12_beat] at a b
  grind
theorem ag_beaten {r1 r2 x1 x2 : Int32} (a : pc_X11_beaten r1 x1 x2) (b : pc_X12_beaten r2 x1 x2) : r1 = r2 := by
  simp only [pc_X11_beaten, pc_X12_beaten] at a b
  grind
theorem ag_begin {r1 r2 x1 x2 : Int32} (a : pc_X11_begin r1 x1 x2) (b : pc_X12_begin r2 x1 x2) : r1 = r2 := by
  simp only [pc_X11_begin, pc_X12_begin] at a b
  grind
theorem ag_draw {r1 r2 x1 x2 x3 : Int32} (a : pc_X11_draw r1 x1 x2 x3) (b : pc_X12_draw r2 x1 x2 x3) : r1 = r2 := by
  simp only [pc_X11_draw, pc_X12_draw] at a b
  grind
theorem ag_ill {r1 r2 x1 x2 : Int32} (a : pc_X11_ill r1 x1 x2) (b : pc_X12_ill r2 x1 x2) : r1 = r2 := by
  simp only [pc_X11_ill, pc_X12_ill] at a b
  grind
theorem ag_tick {r1 r2 x1 : Int32} (a : r1 = sp_tick x1) (b : r2 = sp_tick x1) : r1 = r2 := a.trans b.symm
theorem ag_was {r1 r2 x1 x2 : Int32} (a : pc_X11_was r1 x1 x2) (b : pc_X12_was r2 x1 x2) : r1 = r2 := by
  simp only [pc_X11_was, pc_X12_was] at a b
  grind
theorem ag_point {r1 r2 x1 x2 x3 : Int32} (a : pc_X11_point r1 x1 x2 x3) (b : pc_X12_point r2 x1 x2 x3) : r1 = r2 := by
  simp only [pc_X11_point, pc_X12_point] at a b
  grind
theorem ag_cause {r1 r2 x1 x2 : Int32} (a : pc_X11_cause r1 x1 x2) (b : pc_X12_cause r2 x1 x2) : r1 = r2 := by
  simp only [pc_X11_cause, pc_X12_cause] at a b
  grind
theorem ag_causes {r1 r2 x1 x2 : Int32} (a : pc_X11_causes r1 x1 x2) (b : pc_X12_causes r2 x1 x2) : r1 = r2 := by
  simp only [pc_X11_causes, pc_X12_causes] at a b
  grind
theorem ag_find {r1 r2 x1 x2 x3 x4 x5 : Int32} (a : pc_X11_find r1 x1 x2 x3 x4 x5) (b : pc_X12_find r2 x1 x2 x3 x4 x5) : r1 = r2 := by
  simp only [pc_X11_find, pc_X12_find] at a b
  grind
theorem ag_act {r1 r2 x1 : Int32} (a : pc_X11_act r1 x1) (b : pc_X12_act r2 x1) : r1 = r2 := by
  simp only [pc_X11_act, pc_X12_act] at a b
  grind
theorem ag_force {r1 r2 x1 x2 : Int32} (a : pc_X11_force r1 x1 x2) (b : pc_X12_force r2 x1 x2) : r1 = r2 := by
  simp only [pc_X11_force, pc_X12_force] at a b
  grind
theorem ag_sighting {r1 r2 x1 x2 : Int32} (a : pc_X11_sighting r1 x1 x2) (b : pc_X12_sighting r2 x1 x2) : r1 = r2 := by
  simp only [pc_X11_sighting, pc_X12_sighting] at a b
  grind
theorem ag_should {r1 r2 x1 x2 : Int32} (a : pc_X11_should r1 x1 x2) (b : pc_X12_should r2 x1 x2) : r1 = r2 := by
  simp only [pc_X11_should, pc_X12_should] at a b
  grind
theorem ag_heard {r1 r2 x1 : Int32} (a : pc_X11_heard r1 x1) (b : pc_X12_heard r2 x1) : r1 = r2 := by
  simp only [pc_X11_heard, pc_X12_heard] at a b
  grind
theorem ag_open {r1 r2 x1 : Int32} (a : pc_X11_open r1 x1) (b : pc_X12_open r2 x1) : r1 = r2 := by
  simp only [pc_X11_open, pc_X12_open] at a b
  grind
theorem ag_need {r1 r2 x1 x2 : Int32} (a : pc_X11_need r1 x1 x2) (b : pc_X12_need r2 x1 x2) : r1 = r2 := by
  simp only [pc_X11_need, pc_X12_need] at a b
  grind
theorem ag_want {r1 r2 x1 x2 : Int32} (a : pc_X11_want r1 x1 x2) (b : pc_X12_want r2 x1 x2) : r1 = r2 := by
  simp only [pc_X11_want, pc_X12_want] at a b
  grind
theorem ag_state {r1 r2 x1 x2 x3 x4 : Int32} (a : pc_X11_state r1 x1 x2 x3 x4) (b : pc_X12_state r2 x1 x2 x3 x4) : r1 = r2 := by
  simp only [pc_X11_state, pc_X12_state] at a b
  grind
theorem ag_withdraw {r1 r2 x1 : Int32} (a : pc_X11_withdraw r1 x1) (b : pc_X12_withdraw r2 x1) : r1 = r2 := by
  simp only [pc_X11_withdraw, pc_X12_withdraw] at a b
  grind
theorem ag_fact {r1 r2 x1 x2 x3 : Int32} (a : pc_X11_fact r1 x1 x2 x3) (b : pc_X12_fact r2 x1 x2 x3) : r1 = r2 := by
  simp only [pc_X11_fact, pc_X12_fact] at a b
  grind
theorem ag_cased {r1 r2 x1 x2 x3 : Int32} (a : pc_X11_cased r1 x1 x2 x3) (b : pc_X12_cased r2 x1 x2 x3) : r1 = r2 := by
  simp only [pc_X11_cased, pc_X12_cased] at a b
  grind
theorem ag_story {r1 r2 x1 x2 x3 : Int32} (a : pc_X11_story r1 x1 x2 x3) (b : pc_X12_story r2 x1 x2 x3) : r1 = r2 := by
  simp only [pc_X11_story, pc_X12_story] at a b
  grind
theorem ag_next {r1 r2 x1 : Int32} (a : pc_X11_next r1 x1) (b : pc_X12_next r2 x1) : r1 = r2 := by
  simp only [pc_X11_next, pc_X12_next] at a b
  grind
theorem ag_good {r1 r2 x1 x2 : Int32} (a : pc_X11_good r1 x1 x2) (b : pc_X12_good r2 x1 x2) : r1 = r2 := by
  simp only [pc_X11_good, pc_X12_good] at a b
  grind
theorem ag_least {r1 r2 x1 : Int32} (a : pc_X11_least r1 x1) (b : pc_X12_least r2 x1) : r1 = r2 := by
  simp only [pc_X11_least, pc_X12_least] at a b
  grind
theorem ag_joining {r1 r2 : Int32} (a : pc_X11_joining r1) (b : r2 = 0) : r1 = r2 := by
  simp only [pc_X11_joining] at a b
  grind
theorem ag_joined {r1 r2 x1 : Int32} (a : pc_X11_joined r1 x1) (b : pc_X12_joined r2 x1) : r1 = r2 := by
  simp only [pc_X11_joined, pc_X12_joined] at a b
  grind
theorem ag_rivals {r1 r2 x1 : Int32} (a : pc_X11_rivals r1 x1) (b : pc_X12_rivals r2 x1) : r1 = r2 := by
  simp only [pc_X11_rivals, pc_X12_rivals] at a b
  grind
theorem ag_sure {r1 r2 x1 : Int32} (a : pc_X11_sure r1 x1) (b : pc_X12_sure r2 x1) : r1 = r2 := by
  simp only [pc_X11_sure, pc_X12_sure] at a b
  grind
theorem ag_watch {r1 r2 x1 x2 x3 : Int32} (a : pc_X11_watch r1 x1 x2 x3) (b : pc_X12_watch r2 x1 x2 x3) : r1 = r2 := by
  simp only [pc_X11_watch, pc_X12_watch] at a b
  grind
theorem ag_sees {r1 r2 x1 x2 : Int32} (a : pc_X11_sees r1 x1 x2) (b : pc_X12_sees r2 x1 x2) : r1 = r2 := by
  simp only [pc_X11_sees, pc_X12_sees] at a b
  grind
theorem ag_safe {r1 r2 x1 : Int32} (a : pc_X11_safe r1 x1) (b : pc_X12_safe r2 x1) : r1 = r2 := by
  simp only [pc_X11_safe, pc_X12_safe] at a b
  grind
theorem ag_share {r1 r2 x1 x2 : Int32} (a : pc_X11_share r1 x1 x2) (b : pc_X12_share r2 x1 x2) : r1 = r2 := by
  simp only [pc_X11_share, pc_X12_share] at a b
  grind
theorem ag_fair {r1 r2 x1 x2 x3 : Int32} (a : pc_X11_fair r1 x1 x2 x3) (b : pc_X12_fair r2 x1 x2 x3) : r1 = r2 := by
  simp only [pc_X11_fair, pc_X12_fair] at a b
  grind
theorem ag_lending {r1 r2 x1 : Int32} (a : pc_X11_lending r1 x1) (b : r2 = sp_lend x1) : r1 = r2 := by
  simp only [pc_X11_lending, sp_lend] at a b
  grind
theorem ag_lent {r1 r2 x1 : Int32} (a : pc_X11_lent r1 x1) (b : pc_X12_lent r2 x1) : r1 = r2 := by
  simp only [pc_X11_lent, pc_X12_lent] at a b
  grind
theorem ag_pay {r1 r2 x1 : Int32} (a : pc_X11_pay r1 x1) (b : pc_X12_pay r2 x1) : r1 = r2 := by
  simp only [pc_X11_pay, pc_X12_pay] at a b
  grind
theorem ag_rank {r1 r2 x1 x2 x3 : Int32} (a : pc_X11_rank r1 x1 x2 x3) (b : pc_X12_rank r2 x1 x2 x3) : r1 = r2 := by
  simp only [pc_X11_rank, pc_X12_rank] at a b
  grind
theorem ag_ranked {r1 r2 x1 x2 x3 : Int32} (a : pc_X11_ranked r1 x1 x2 x3) (b : pc_X12_ranked r2 x1 x2 x3) : r1 = r2 := by
  simp only [pc_X11_ranked, pc_X12_ranked] at a b
  grind
theorem ag_paid {r1 r2 x1 x2 x3 : Int32} (a : pc_X11_paid r1 x1 x2 x3) (b : pc_X12_paid r2 x1 x2 x3) : r1 = r2 := by
  simp only [pc_X11_paid, pc_X12_paid] at a b
  grind
theorem ag_book {r1 r2 : Int32} (a : pc_X11_book r1) (b : pc_X12_book r2) : r1 = r2 := by
  simp only [pc_X11_book, pc_X12_book] at a b
  grind
theorem ag_line {r1 r2 x1 x2 : Int32} (a : pc_X11_line r1 x1 x2) (b : pc_X12_line r2 x1 x2) : r1 = r2 := by
  simp only [pc_X11_line, pc_X12_line] at a b
  grind
theorem ag_mark {r1 r2 x1 x2 x3 : Int32} (a : pc_X11_mark r1 x1 x2 x3) (b : pc_X12_mark r2 x1 x2 x3) : r1 = r2 := by
  simp only [pc_X11_mark, pc_X12_mark] at a b
  grind
theorem ag_size {r1 r2 x1 : Int32} (a : pc_X11_size r1 x1) (b : pc_X12_size r2 x1) : r1 = r2 := by
  simp only [pc_X11_size, pc_X12_size] at a b
  grind
theorem ag_habit {r1 r2 x1 x2 : Int32} (a : pc_X11_habit r1 x1 x2) (b : pc_X12_habit r2 x1 x2) : r1 = r2 := by
  simp only [pc_X11_habit, pc_X12_habit] at a b
  grind
theorem ag_complain {r1 r2 x1 x2 x3 x4 : Int32} (a : pc_X11_complain r1 x1 x2 x3 x4) (b : pc_X12_complain r2 x1 x2 x3 x4) : r1 = r2 := by
  simp only [pc_X11_complain, pc_X12_complain] at a b
  grind
theorem ag_count {r1 r2 x1 : Int32} (a : pc_X11_count r1 x1) (b : pc_X12_count r2 x1) : r1 = r2 := by
  simp only [pc_X11_count, pc_X12_count] at a b
  grind
