set_option maxRecDepth 100000 in
theorem zk_X9_init : ∀ x ∈ zi_X9_init, zokE zm_X9_init x = true := List.all_eq_true.mp (by decide +kernel)
set_option maxRecDepth 100000 in
theorem zk_X9_in : ∀ x ∈ zi_X9_in, zokE zm_X9_in x = true := List.all_eq_true.mp (by decide +kernel)
set_option maxRecDepth 100000 in
theorem zk_X9_flag : ∀ x ∈ zi_X9_flag, zokE zm_X9_flag x = true := List.all_eq_true.mp (by decide +kernel)
set_option maxRecDepth 100000 in
theorem zk_X9_refuse : ∀ x ∈ zi_X9_refuse, zokE zm_X9_refuse x = true := List.all_eq_true.mp (by decide +kernel)
set_option maxRecDepth 100000 in
theorem zk_X9_bad : ∀ x ∈ zi_X9_bad, zokE zm_X9_bad x = true := List.all_eq_true.mp (by decide +kernel)
set_option maxRecDepth 100000 in
theorem zk_X9_clearDraft : ∀ x ∈ zi_X9_clearDraft, zokE zm_X9_clearDraft x = true := List.all_eq_true.mp (by decide +kernel)
set_option maxRecDepth 100000 in
theorem zk_X9_keepDraft : ∀ x ∈ zi_X9_keepDraft, zokE zm_X9_keepDraft x = true := List.all_eq_true.mp (by decide +kernel)
set_option maxRecDepth 100000 in
theorem zk_X9_type : ∀ x ∈ zi_X9_type, zokE zm_X9_type x = true := List.all_eq_true.mp (by decide +kernel)
set_option maxRecDepth 100000 in
theorem zk_X9_clear : ∀ x ∈ zi_X9_clear, zokE zm_X9_clear x = true := List.all_eq_true.mp (by decide +kernel)
set_option maxRecDepth 100000 in
theorem zk_X9_look : ∀ x ∈ zi_X9_look, zokE zm_X9_look x = true := List.all_eq_true.mp (by decide +kernel)
set_option maxRecDepth 100000 in
theorem zk_X9_token : ∀ x ∈ zi_X9_token, zokE zm_X9_token x = true := List.all_eq_true.mp (by decide +kernel)
set_option maxRecDepth 100000 in
theorem zk_X9_is : ∀ x ∈ zi_X9_is, zokE zm_X9_is x = true := List.all_eq_true.mp (by decide +kernel)
set_option maxRecDepth 100000 in
theorem zk_X9_needs : ∀ x ∈ zi_X9_needs, zokE zm_X9_needs x = true := List.all_eq_true.mp (by decide +kernel)
set_option maxRecDepth 100000 in
theorem zk_X9_isGood : ∀ x ∈ zi_X9_isGood, zokE zm_X9_isGood x = true := List.all_eq_true.mp (by decide +kernel)
set_option maxRecDepth 100000 in
theorem zk_X9_readNumber : ∀ x ∈ zi_X9_readNumber, zokE zm_X9_readNumber x = true := List.all_eq_true.mp (by decide +kernel)
set_option maxRecDepth 100000 in
theorem zk_X9_readPart : ∀ x ∈ zi_X9_readPart, zokE zm_X9_readPart x = true := List.all_eq_true.mp (by decide +kernel)
set_option maxRecDepth 100000 in
theorem zk_X9_readChild : ∀ x ∈ zi_X9_readChild, zokE zm_X9_readChild x = true := List.all_eq_true.mp (by decide +kernel)
set_option maxRecDepth 100000 in
theorem zk_X9_readScene : ∀ x ∈ zi_X9_readScene, zokE zm_X9_readScene x = true := List.all_eq_true.mp (by decide +kernel)
set_option maxRecDepth 100000 in
theorem zk_X9_readWish : ∀ x ∈ zi_X9_readWish, zokE zm_X9_readWish x = true := List.all_eq_true.mp (by decide +kernel)
set_option maxRecDepth 100000 in
theorem zk_X9_readItem : ∀ x ∈ zi_X9_readItem, zokE zm_X9_readItem x = true := List.all_eq_true.mp (by decide +kernel)
set_option maxRecDepth 100000 in
theorem zk_X9_read : ∀ x ∈ zi_X9_read, zokE zm_X9_read x = true := List.all_eq_true.mp (by decide +kernel)
set_option maxRecDepth 100000 in
theorem zk_X9_put : ∀ x ∈ zi_X9_put, zokE zm_X9_put x = true := List.all_eq_true.mp (by decide +kernel)
set_option maxRecDepth 100000 in
theorem zk_X9_isPart : ∀ x ∈ zi_X9_isPart, zokE zm_X9_isPart x = true := List.all_eq_true.mp (by decide +kernel)
set_option maxRecDepth 100000 in
theorem zk_X9_isChild : ∀ x ∈ zi_X9_isChild, zokE zm_X9_isChild x = true := List.all_eq_true.mp (by decide +kernel)
set_option maxRecDepth 100000 in
theorem zk_X9_of : ∀ x ∈ zi_X9_of, zokE zm_X9_of x = true := List.all_eq_true.mp (by decide +kernel)
set_option maxRecDepth 100000 in
theorem zk_X9_lines : ∀ x ∈ zi_X9_lines, zokE zm_X9_lines x = true := List.all_eq_true.mp (by decide +kernel)
set_option maxRecDepth 100000 in
theorem zk_X9_rank : ∀ x ∈ zi_X9_rank, zokE zm_X9_rank x = true := List.all_eq_true.mp (by decide +kernel)
set_option maxRecDepth 100000 in
theorem zk_X9_fitOf : ∀ x ∈ zi_X9_fitOf, zokE zm_X9_fitOf x = true := List.all_eq_true.mp (by decide +kernel)
set_option maxRecDepth 100000 in
theorem zk_X9_fit : ∀ x ∈ zi_X9_fit, zokE zm_X9_fit x = true := List.all_eq_true.mp (by decide +kernel)
set_option maxRecDepth 100000 in
theorem zk_X9_isIn : ∀ x ∈ zi_X9_isIn, zokE zm_X9_isIn x = true := List.all_eq_true.mp (by decide +kernel)
set_option maxRecDepth 100000 in
theorem zk_X9_clashes : ∀ x ∈ zi_X9_clashes, zokE zm_X9_clashes x = true := List.all_eq_true.mp (by decide +kernel)
set_option maxRecDepth 100000 in
theorem zk_X9_clash : ∀ x ∈ zi_X9_clash, zokE zm_X9_clash x = true := List.all_eq_true.mp (by decide +kernel)
set_option maxRecDepth 100000 in
theorem zk_X9_layClashes : ∀ x ∈ zi_X9_layClashes, zokE zm_X9_layClashes x = true := List.all_eq_true.mp (by decide +kernel)
set_option maxRecDepth 100000 in
theorem zk_X9_lays : ∀ x ∈ zi_X9_lays, zokE zm_X9_lays x = true := List.all_eq_true.mp (by decide +kernel)
set_option maxRecDepth 100000 in
theorem zk_X9_rows : ∀ x ∈ zi_X9_rows, zokE zm_X9_rows x = true := List.all_eq_true.mp (by decide +kernel)
set_option maxRecDepth 100000 in
theorem zk_X9_players : ∀ x ∈ zi_X9_players, zokE zm_X9_players x = true := List.all_eq_true.mp (by decide +kernel)
set_option maxRecDepth 100000 in
theorem zk_X9_rowFit : ∀ x ∈ zi_X9_rowFit, zokE zm_X9_rowFit x = true := List.all_eq_true.mp (by decide +kernel)
set_option maxRecDepth 100000 in
theorem zk_X9_takes : ∀ x ∈ zi_X9_takes, zokE zm_X9_takes x = true := List.all_eq_true.mp (by decide +kernel)
set_option maxRecDepth 100000 in
theorem zk_X9_findBest : ∀ x ∈ zi_X9_findBest, zokE zm_X9_findBest x = true := List.all_eq_true.mp (by decide +kernel)
set_option maxRecDepth 100000 in
theorem zk_X9_best : ∀ x ∈ zi_X9_best, zokE zm_X9_best x = true := List.all_eq_true.mp (by decide +kernel)
set_option maxRecDepth 100000 in
theorem zk_X9_fewest : ∀ x ∈ zi_X9_fewest, zokE zm_X9_fewest x = true := List.all_eq_true.mp (by decide +kernel)
set_option maxRecDepth 100000 in
theorem zk_X9_isOrNone : ∀ x ∈ zi_X9_isOrNone, zokE zm_X9_isOrNone x = true := List.all_eq_true.mp (by decide +kernel)
set_option maxRecDepth 100000 in
theorem zk_X9_cast : ∀ x ∈ zi_X9_cast, zokE zm_X9_cast x = true := List.all_eq_true.mp (by decide +kernel)
set_option maxRecDepth 100000 in
theorem zk_X9_takeBest : ∀ x ∈ zi_X9_takeBest, zokE zm_X9_takeBest x = true := List.all_eq_true.mp (by decide +kernel)
set_option maxRecDepth 100000 in
theorem zk_X9_isScene : ∀ x ∈ zi_X9_isScene, zokE zm_X9_isScene x = true := List.all_eq_true.mp (by decide +kernel)
set_option maxRecDepth 100000 in
theorem zk_X9_has : ∀ x ∈ zi_X9_has, zokE zm_X9_has x = true := List.all_eq_true.mp (by decide +kernel)
set_option maxRecDepth 100000 in
theorem zk_X9_sits : ∀ x ∈ zi_X9_sits, zokE zm_X9_sits x = true := List.all_eq_true.mp (by decide +kernel)
set_option maxRecDepth 100000 in
theorem zk_X9_goesThrough : ∀ x ∈ zi_X9_goesThrough, zokE zm_X9_goesThrough x = true := List.all_eq_true.mp (by decide +kernel)
set_option maxRecDepth 100000 in
theorem zk_X9_aNight : ∀ x ∈ zi_X9_aNight, zokE zm_X9_aNight x = true := List.all_eq_true.mp (by decide +kernel)
set_option maxRecDepth 100000 in
theorem zk_X9_takesKnown : ∀ x ∈ zi_X9_takesKnown, zokE zm_X9_takesKnown x = true := List.all_eq_true.mp (by decide +kernel)
set_option maxRecDepth 100000 in
theorem zk_X9_putsKnown : ∀ x ∈ zi_X9_putsKnown, zokE zm_X9_putsKnown x = true := List.all_eq_true.mp (by decide +kernel)
set_option maxRecDepth 100000 in
theorem zk_X9_rehearse : ∀ x ∈ zi_X9_rehearse, zokE zm_X9_rehearse x = true := List.all_eq_true.mp (by decide +kernel)
set_option maxRecDepth 100000 in
theorem zk_X9_night : ∀ x ∈ zi_X9_night, zokE zm_X9_night x = true := List.all_eq_true.mp (by decide +kernel)
set_option maxRecDepth 100000 in
theorem zk_X9_known : ∀ x ∈ zi_X9_known, zokE zm_X9_known x = true := List.all_eq_true.mp (by decide +kernel)
set_option maxRecDepth 100000 in
theorem zk_X9_sat : ∀ x ∈ zi_X9_sat, zokE zm_X9_sat x = true := List.all_eq_true.mp (by decide +kernel)
set_option maxRecDepth 100000 in
theorem zk_X9_minutesOf : ∀ x ∈ zi_X9_minutesOf, zokE zm_X9_minutesOf x = true := List.all_eq_true.mp (by decide +kernel)
set_option maxRecDepth 100000 in
theorem zk_X9_slipsOf : ∀ x ∈ zi_X9_slipsOf, zokE zm_X9_slipsOf x = true := List.all_eq_true.mp (by decide +kernel)
set_option maxRecDepth 100000 in
theorem zk_X9_allSlips : ∀ x ∈ zi_X9_allSlips, zokE zm_X9_allSlips x = true := List.all_eq_true.mp (by decide +kernel)
set_option maxRecDepth 100000 in
theorem zk_X9_slips : ∀ x ∈ zi_X9_slips, zokE zm_X9_slips x = true := List.all_eq_true.mp (by decide +kernel)
set_option maxRecDepth 100000 in
theorem zk_X9_cut : ∀ x ∈ zi_X9_cut, zokE zm_X9_cut x = true := List.all_eq_true.mp (by decide +kernel)
set_option maxRecDepth 100000 in
theorem zk_X9_leastKnown : ∀ x ∈ zi_X9_leastKnown, zokE zm_X9_leastKnown x = true := List.all_eq_true.mp (by decide +kernel)
set_option maxRecDepth 100000 in
theorem zk_X9_plan : ∀ x ∈ zi_X9_plan, zokE zm_X9_plan x = true := List.all_eq_true.mp (by decide +kernel)
set_option maxRecDepth 100000 in
theorem zk_X9_behind : ∀ x ∈ zi_X9_behind, zokE zm_X9_behind x = true := List.all_eq_true.mp (by decide +kernel)
set_option maxRecDepth 100000 in
theorem zk_X9_isWell : ∀ x ∈ zi_X9_isWell, zokE zm_X9_isWell x = true := List.all_eq_true.mp (by decide +kernel)
set_option maxRecDepth 100000 in
theorem zk_X9_goes : ∀ x ∈ zi_X9_goes, zokE zm_X9_goes x = true := List.all_eq_true.mp (by decide +kernel)
set_option maxRecDepth 100000 in
theorem zk_X9_whole : ∀ x ∈ zi_X9_whole, zokE zm_X9_whole x = true := List.all_eq_true.mp (by decide +kernel)
set_option maxRecDepth 100000 in
theorem zk_X9_oddsOf : ∀ x ∈ zi_X9_oddsOf, zokE zm_X9_oddsOf x = true := List.all_eq_true.mp (by decide +kernel)
set_option maxRecDepth 100000 in
theorem zk_X9_tell : ∀ x ∈ zi_X9_tell, zokE zm_X9_tell x = true := List.all_eq_true.mp (by decide +kernel)
set_option maxRecDepth 100000 in
theorem zk_X9_odds : ∀ x ∈ zi_X9_odds, zokE zm_X9_odds x = true := List.all_eq_true.mp (by decide +kernel)
set_option maxRecDepth 100000 in
theorem zk_X9_hours : ∀ x ∈ zi_X9_hours, zokE zm_X9_hours x = true := List.all_eq_true.mp (by decide +kernel)
set_option maxRecDepth 100000 in
theorem zk_X9_next : ∀ x ∈ zi_X9_next, zokE zm_X9_next x = true := List.all_eq_true.mp (by decide +kernel)
set_option maxRecDepth 100000 in
theorem zk_X9_hot : ∀ x ∈ zi_X9_hot, zokE zm_X9_hot x = true := List.all_eq_true.mp (by decide +kernel)
set_option maxRecDepth 100000 in
theorem zk_X9_takesWishes : ∀ x ∈ zi_X9_takesWishes, zokE zm_X9_takesWishes x = true := List.all_eq_true.mp (by decide +kernel)
set_option maxRecDepth 100000 in
theorem zk_X9_isFree : ∀ x ∈ zi_X9_isFree, zokE zm_X9_isFree x = true := List.all_eq_true.mp (by decide +kernel)
set_option maxRecDepth 100000 in
theorem zk_X9_gives : ∀ x ∈ zi_X9_gives, zokE zm_X9_gives x = true := List.all_eq_true.mp (by decide +kernel)
set_option maxRecDepth 100000 in
theorem zk_X9_layLots : ∀ x ∈ zi_X9_layLots, zokE zm_X9_layLots x = true := List.all_eq_true.mp (by decide +kernel)
set_option maxRecDepth 100000 in
theorem zk_X9_lots : ∀ x ∈ zi_X9_lots, zokE zm_X9_lots x = true := List.all_eq_true.mp (by decide +kernel)
set_option maxRecDepth 100000 in
theorem zk_X9_rankOrLast : ∀ x ∈ zi_X9_rankOrLast, zokE zm_X9_rankOrLast x = true := List.all_eq_true.mp (by decide +kernel)
set_option maxRecDepth 100000 in
theorem zk_X9_gainsOne : ∀ x ∈ zi_X9_gainsOne, zokE zm_X9_gainsOne x = true := List.all_eq_true.mp (by decide +kernel)
set_option maxRecDepth 100000 in
theorem zk_X9_gains : ∀ x ∈ zi_X9_gains, zokE zm_X9_gains x = true := List.all_eq_true.mp (by decide +kernel)
set_option maxRecDepth 100000 in
theorem zk_X9_power : ∀ x ∈ zi_X9_power, zokE zm_X9_power x = true := List.all_eq_true.mp (by decide +kernel)
set_option maxRecDepth 100000 in
theorem zk_X9_tried : ∀ x ∈ zi_X9_tried, zokE zm_X9_tried x = true := List.all_eq_true.mp (by decide +kernel)
set_option maxRecDepth 100000 in
theorem zk_X9_year : ∀ x ∈ zi_X9_year, zokE zm_X9_year x = true := List.all_eq_true.mp (by decide +kernel)
set_option maxRecDepth 100000 in
theorem zk_X9_forget : ∀ x ∈ zi_X9_forget, zokE zm_X9_forget x = true := List.all_eq_true.mp (by decide +kernel)
set_option maxRecDepth 100000 in
theorem zk_X9_leanOf : ∀ x ∈ zi_X9_leanOf, zokE zm_X9_leanOf x = true := List.all_eq_true.mp (by decide +kernel)
set_option maxRecDepth 100000 in
theorem zk_X9_leans : ∀ x ∈ zi_X9_leans, zokE zm_X9_leans x = true := List.all_eq_true.mp (by decide +kernel)
set_option maxRecDepth 100000 in
theorem zk_X9_limbs : ∀ x ∈ zi_X9_limbs, zokE zm_X9_limbs x = true := List.all_eq_true.mp (by decide +kernel)
set_option maxRecDepth 100000 in
theorem zk_X9_limbOf : ∀ x ∈ zi_X9_limbOf, zokE zm_X9_limbOf x = true := List.all_eq_true.mp (by decide +kernel)
set_option maxRecDepth 100000 in
theorem zk_X9_signOf : ∀ x ∈ zi_X9_signOf, zokE zm_X9_signOf x = true := List.all_eq_true.mp (by decide +kernel)
set_option maxRecDepth 100000 in
theorem zk_X9_sign : ∀ x ∈ zi_X9_sign, zokE zm_X9_sign x = true := List.all_eq_true.mp (by decide +kernel)
set_option maxRecDepth 100000 in
theorem zk_X9_limb : ∀ x ∈ zi_X9_limb, zokE zm_X9_limb x = true := List.all_eq_true.mp (by decide +kernel)
set_option maxRecDepth 100000 in
theorem zk_X9_copies : ∀ x ∈ zi_X9_copies, zokE zm_X9_copies x = true := List.all_eq_true.mp (by decide +kernel)
set_option maxRecDepth 100000 in
theorem zk_X9_image : ∀ x ∈ zi_X9_image, zokE zm_X9_image x = true := List.all_eq_true.mp (by decide +kernel)
set_option maxRecDepth 100000 in
theorem zk_X9_from : ∀ x ∈ zi_X9_from, zokE zm_X9_from x = true := List.all_eq_true.mp (by decide +kernel)
set_option maxRecDepth 100000 in
theorem zk_X9_status : ∀ x ∈ zi_X9_status, zokE zm_X9_status x = true := List.all_eq_true.mp (by decide +kernel)
set_option maxRecDepth 100000 in
theorem zk_X9_countOf : ∀ x ∈ zi_X9_countOf, zokE zm_X9_countOf x = true := List.all_eq_true.mp (by decide +kernel)
set_option maxRecDepth 100000 in
theorem zk_X9_count : ∀ x ∈ zi_X9_count, zokE zm_X9_count x = true := List.all_eq_true.mp (by decide +kernel)
set_option maxRecDepth 100000 in
theorem zk_X9_notes : ∀ x ∈ zi_X9_notes, zokE zm_X9_notes x = true := List.all_eq_true.mp (by decide +kernel)
set_option maxRecDepth 100000 in
theorem zk_X9_notesRow : ∀ x ∈ zi_X9_notesRow, zokE zm_X9_notesRow x = true := List.all_eq_true.mp (by decide +kernel)
set_option maxRecDepth 100000 in
theorem zk_X9_digest : ∀ x ∈ zi_X9_digest, zokE zm_X9_digest x = true := List.all_eq_true.mp (by decide +kernel)
