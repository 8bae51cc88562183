theorem lw_first_ok : lw_first (fun x mm t => lw_I x mm t 0) := first_ok
